-- PART 52: what is known of the machine as the law begins
theorem inst_all {ci : Nat} {q : vw_C} (hc : vwCl[ci]? = some q) : Cond.instantiable q.1 q.2.2 ∈ pU := by
  match ci, hc with
  | 0, hc => cases hc; exact u_24
  | 1, hc => cases hc; exact u_187
  | 2, hc => cases hc; exact u_106
  | 3, hc => cases hc; exact u_79
  | 4, hc => cases hc; exact u_85
  | 5, hc => cases hc; exact u_180
  | 6, hc => cases hc; exact u_46
  | 7, hc => cases hc; exact u_314
  | 8, hc => cases hc; exact u_293
  | 9, hc => cases hc; exact u_40
  | 10, hc => cases hc; exact u_16
  | 11, hc => cases hc; exact u_847
  | n + 12, hc => exact absurd hc (by simp [vwCl])
theorem ra_arr {A : Array Value} {s : State} {ty : FieldType} (h : (Cond.arrayClass ty).before A s = true) : ∃ c : ClassId, ArrOfT s c ty ∧ s.vm.findClass ("[" ++ ty.toString) = some c := by
  obtain ⟨c, k, comp, h1, h2, h3⟩ := Cond.arrayClass_spec h
  exact ⟨c, fun n z => ⟨fun k h => (by cases h), k, h2, comp, h3⟩, h1⟩
theorem ra_obj {A : Array Value} {s : State} {E : String} (h : (Cond.arrayOver (.object E)).before A s = true) : ∃ c : ClassId, ArrOfT s c (.object E) ∧ va_RA s c (.object E) := by
  obtain ⟨comp, c, k, h1, h2, h3, h4, h5⟩ := Cond.arrayOver_spec h
  exact ⟨c, fun n z => ⟨fun k h => (by cases h), k, h3, comp, h4⟩, k, comp, h3, h4, h1, h5⟩
set_option maxRecDepth 20000 in
theorem ao_Letter {A : Array Value} {s : State} (hts : ∀ w ∈ lw_tbl, w.before A s = true) : (Cond.arrayOver (.object "ViewBroadcast$Letter")).before A s = true := hts _ (List.mem_of_getElem? (i := 221) rfl)
set_option maxRecDepth 20000 in
theorem ao_Miss {A : Array Value} {s : State} (hts : ∀ w ∈ lw_tbl, w.before A s = true) : (Cond.arrayOver (.object "ViewBroadcast$Miss")).before A s = true := hts _ (List.mem_of_getElem? (i := 140) rfl)
set_option maxRecDepth 20000 in
theorem ao_Node {A : Array Value} {s : State} (hts : ∀ w ∈ lw_tbl, w.before A s = true) : (Cond.arrayOver (.object "ViewBroadcast$Node")).before A s = true := hts _ (List.mem_of_getElem? (i := 113) rfl)
set_option maxRecDepth 20000 in
theorem ao_World {A : Array Value} {s : State} (hts : ∀ w ∈ lw_tbl, w.before A s = true) : (Cond.arrayOver (.object "ViewBroadcast$World")).before A s = true := hts _ (List.mem_of_getElem? (i := 358) rfl)
set_option maxRecDepth 20000 in
theorem nw_60 {A : Array Value} {s : State} (hts : ∀ w ∈ lw_tbl, w.before A s = true) : (Jvm.Cond.methodLinkNest "ViewBroadcast" (9 : Nat) ({ cls := "ViewBroadcast$Coins", name := "<init>", desc := "()V" } : Jvm.MethodName) "ViewBroadcast").before A s = true := hts _ (List.mem_of_getElem? (i := 60) rfl)
set_option maxRecDepth 20000 in
theorem nw_82 {A : Array Value} {s : State} (hts : ∀ w ∈ lw_tbl, w.before A s = true) : (Jvm.Cond.methodLinkNest "ViewBroadcast$World" (11 : Nat) ({ cls := "ViewBroadcast$Sizes", name := "<init>", desc := "()V" } : Jvm.MethodName) "ViewBroadcast").before A s = true := hts _ (List.mem_of_getElem? (i := 82) rfl)
set_option maxRecDepth 20000 in
theorem nw_142 {A : Array Value} {s : State} (hts : ∀ w ∈ lw_tbl, w.before A s = true) : (Jvm.Cond.methodLinkNest "ViewBroadcast$Node" (53 : Nat) ({ cls := "ViewBroadcast$Miss", name := "<init>", desc := "()V" } : Jvm.MethodName) "ViewBroadcast").before A s = true := hts _ (List.mem_of_getElem? (i := 142) rfl)
set_option maxRecDepth 20000 in
theorem nw_223 {A : Array Value} {s : State} (hts : ∀ w ∈ lw_tbl, w.before A s = true) : (Jvm.Cond.methodLinkNest "ViewBroadcast$Row" (27 : Nat) ({ cls := "ViewBroadcast$Letter", name := "<init>", desc := "()V" } : Jvm.MethodName) "ViewBroadcast").before A s = true := hts _ (List.mem_of_getElem? (i := 223) rfl)
set_option maxRecDepth 20000 in
theorem nw_280 {A : Array Value} {s : State} (hts : ∀ w ∈ lw_tbl, w.before A s = true) : (Jvm.Cond.methodLinkNest "ViewBroadcast$World" (40 : Nat) ({ cls := "ViewBroadcast$Letter", name := "<init>", desc := "()V" } : Jvm.MethodName) "ViewBroadcast").before A s = true := hts _ (List.mem_of_getElem? (i := 280) rfl)
theorem law_D {A : Array Value} {s : State} (hts : ∀ w ∈ lw_tbl, w.before A s = true) : ∃ D : va_G, pK D s := by
  have htU : ∀ w ∈ pU, w.before A s = true := fun w hw => hts w (pU_in w hw)
  have hk : ∀ k : Nat, ∃ x : ClassId × (Nat → Nat), ∀ q : vw_C, vwCl[k]? = some q → u_Kn s q.1 q.2.1 q.2.2 x.1 x.2 := by
    intro k
    cases e : vwCl[k]? with
    | none => exact ⟨(0, fun _ => 0), fun q hq => by cases hq⟩
    | some q =>
      obtain ⟨cC, iS, h⟩ := u_known htU (in_all e) (htU _ (inst_all e))
      exact ⟨(cC, iS), fun q2 hq => by cases hq; exact h⟩
  obtain ⟨f, hf⟩ := Classical.axiomOfChoice hk
  obtain ⟨c0, x0, y0⟩ := ra_arr (htU _ u_38)
  obtain ⟨c1, x1, y1⟩ := ra_arr (htU _ u_343)
  obtain ⟨c2, x2, y2⟩ := ra_obj (ao_Letter hts)
  obtain ⟨c3, x3, y3⟩ := ra_obj (ao_Miss hts)
  obtain ⟨c4, x4, y4⟩ := ra_obj (ao_Node hts)
  obtain ⟨c5, x5, y5⟩ := ra_obj (ao_World hts)
  refine ⟨(fun k => if k = 20 then c0 else if k = 21 then c1 else if k = 22 then c2 else if k = 23 then c3 else if k = 24 then c4 else if k = 25 then c5 else (f k).1, fun k => (f k).2), ⟨fun c q hq => ?_, fun k q hq => ?_⟩, fun C hC => ?_, fun w hw => ?_⟩
  · have hc : c < 12 := (List.getElem?_eq_some_iff.mp hq).1
    show u_Kn s q.1 q.2.1 q.2.2 (if c = 20 then c0 else if c = 21 then c1 else if c = 22 then c2 else if c = 23 then c3 else if c = 24 then c4 else if c = 25 then c5 else (f c).1) (f c).2
    rw [if_neg (by omega), if_neg (by omega), if_neg (by omega), if_neg (by omega), if_neg (by omega), if_neg (by omega)]
    exact hf c q hq
  · match k, hq with
    | 0, hq => cases hq; exact ⟨x0, y0⟩
    | 1, hq => cases hq; exact ⟨x1, y1⟩
    | 2, hq => cases hq; exact ⟨x2, y2⟩
    | 3, hq => cases hq; exact ⟨x3, y3⟩
    | 4, hq => cases hq; exact ⟨x4, y4⟩
    | 5, hq => cases hq; exact ⟨x5, y5⟩
    | n + 6, hq => exact absurd hq (by simp [pty])
  · simp only [pAOs, List.mem_cons, List.not_mem_nil, or_false] at hC
    rcases hC with rfl | rfl | rfl | rfl
    · exact va_AO.of (ao_Letter hts)
    · exact va_AO.of (ao_Miss hts)
    · exact va_AO.of (ao_Node hts)
    · exact va_AO.of (ao_World hts)
  · simp only [pNws, List.mem_cons, List.not_mem_nil, or_false] at hw
    rcases hw with rfl | rfl | rfl | rfl | rfl
    · exact va_Nw.of rfl (nw_60 hts)
    · exact va_Nw.of rfl (nw_82 hts)
    · exact va_Nw.of rfl (nw_142 hts)
    · exact va_Nw.of rfl (nw_223 hts)
    · exact va_Nw.of rfl (nw_280 hts)
