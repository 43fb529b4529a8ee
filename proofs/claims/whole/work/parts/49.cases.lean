-- PART 49: the law's cases
set_option maxRecDepth 20000 in
set_option maxHeartbeats 4000000 in
theorem l_sizes {K : vT} {P : List Nat} {A : Nat → Nat} {g : pM} {b L w B i c s : Nat} {xs : Nat → Int32} (C : vC K cL_law RL 4 room_1) (X : LX K b L xs) (hi4 : i + 4 ≤ L) (hL : L ≤ 2048) (hB : B + 2001 < 2 ^ 30) (hN : NX A w (lo w g) (hi w g) B) (hcs : c ≤ 628067 ∧ s ≤ 7218046) (kk : ∀ g' : pM, NX A w (lo w g') (hi w g') (B + 2000) → V K c s P A g' [(0, .ref b), (1, .ref (A (w + 15010))), (2, .ref (A (w + 15100))), (3, .int (nI i))] 803 []) : V K c s P A g [(0, .ref b), (1, .ref (A (w + 15010))), (2, .ref (A (w + 15100))), (3, .int (nI i))] 148 [] := by
  obtain ⟨cs, σ, ks, hX, hM, hKP, hS, hk2⟩ := hN
  refine g_aload_n (pc := 148) C dL_law_148 1 rfl ?_
  refine g_aload_n (pc := 149) C dL_law_149 0 rfl ?_
  refine g_iload_n (pc := 150) C dL_law_150 3 rfl ?_
  refine g_iconst (pc := 151) C dL_law_151 (v := nI 1) rfl ?_
  refine g_iadd (pc := 152) C dL_law_152 (z := nI (i + 1)) (nI_add _ _) ?_
  refine g_sld (pc := 153) C X (iv := i + 1) (nI_clamp (by omega)) (nI_in0 (by omega) (by omega)) dL_law_153 ?_
  refine g_aload_n (pc := 154) C dL_law_154 0 rfl ?_
  refine g_iload_n (pc := 155) C dL_law_155 3 rfl ?_
  refine g_iconst (pc := 156) C dL_law_156 (v := nI 2) rfl ?_
  refine g_iadd (pc := 157) C dL_law_157 (z := nI (i + 2)) (nI_add _ _) ?_
  refine g_sld (pc := 158) C X (iv := i + 2) (nI_clamp (by omega)) (nI_in0 (by omega) (by omega)) dL_law_158 ?_
  refine g_callV (pc := 159) C (As := [.int (xs (i + 1)), .int (xs (i + 2))]) (rest := []) (b := w + 15010) (pm_lo (w := w) (c_X10_sizes A _ _ w (xs (i + 1)) (xs (i + 2)) hS hX)) (lo_at hX.1 (by omega)) rfl rfl Y_X10_sizes u_344 N_X10_sizes ⟨by decide, by decide⟩ hcs (Nat.le_of_ble_eq_true rfl) rfl dL_law_159 ?_
  rintro v _ _ f ⟨rfl, rfl, h1, hf1⟩
  obtain ⟨r, rfl⟩ : ∃ r, v = some (.int r) := by
    rcases h1 with ⟨_, ev, _⟩ | ⟨_, _, _, _, _, _, _, _, (⟨_, ev, _⟩ | ⟨_, ev, _⟩)⟩
    · exact ⟨_, ev⟩
    · exact ⟨_, ev⟩
    · exact ⟨_, ev⟩
  rw [← hf1] at hM hKP
  show V K c s P A f [(0, .ref b), (1, .ref (A (w + 15010))), (2, .ref (A (w + 15100))), (3, .int (nI i))] 162 [.int r]
  refine g_aload_n (pc := 162) C dL_law_162 2 rfl ?_
  refine g_aload_n (pc := 163) C dL_law_163 0 rfl ?_
  refine g_iload_n (pc := 164) C dL_law_164 3 rfl ?_
  refine g_iconst (pc := 165) C dL_law_165 (v := nI 1) rfl ?_
  refine g_iadd (pc := 166) C dL_law_166 (z := nI (i + 1)) (nI_add _ _) ?_
  refine g_sld (pc := 167) C X (iv := i + 1) (nI_clamp (by omega)) (nI_in0 (by omega) (by omega)) dL_law_167 ?_
  refine g_aload_n (pc := 168) C dL_law_168 0 rfl ?_
  refine g_iload_n (pc := 169) C dL_law_169 3 rfl ?_
  refine g_iconst (pc := 170) C dL_law_170 (v := nI 2) rfl ?_
  refine g_iadd (pc := 171) C dL_law_171 (z := nI (i + 2)) (nI_add _ _) ?_
  refine g_sld (pc := 172) C X (iv := i + 2) (nI_clamp (by omega)) (nI_in0 (by omega) (by omega)) dL_law_172 ?_
  refine g_callV (pc := 173) C (As := [.int (xs (i + 1)), .int (xs (i + 2))]) (rest := [.int r]) (b := w + 15100) (pm_hi (w := w) (c_X11_sizes A _ _ (w + 15100) (xs (i + 1)) (xs (i + 2)) hS hM)) (hi_at (MM.ob hM).choose_spec (by omega)) rfl rfl Y_X11_sizes u_901 N_X11_sizes ⟨by decide, by decide⟩ hcs (Nat.le_of_ble_eq_true rfl) rfl dL_law_173 ?_
  rintro v _ _ f2 ⟨rfl, rfl, h2, hf2⟩
  obtain ⟨r2, rfl⟩ : ∃ r, v = some (.int r) := by
    rcases h2 with ⟨_, ev, _⟩ | ⟨_, _, _, _, _, _, _, _, (⟨_, ev, _⟩ | ⟨_, ev, _, _⟩)⟩
    · exact ⟨_, ev⟩
    · exact ⟨_, ev⟩
    · exact ⟨_, ev⟩
  show V K c s P A f2 [(0, .ref b), (1, .ref (A (w + 15010))), (2, .ref (A (w + 15100))), (3, .int (nI i))] 176 [.int r2, .int r]
  have E := a_sizes hB hS hk2 hX hM hKP h1 h2
  exact g_icmp_eq (pc := 176) C dL_law_176 (tgt := 803) (by decide) (fun _ => kk f2 (by rw [hf2]; exact E.2)) (fun q => absurd E.1 q)
set_option maxRecDepth 20000 in
set_option maxHeartbeats 4000000 in
theorem l_walks {K : vT} {P : List Nat} {A : Nat → Nat} {g : pM} {b L w B i c s : Nat} {xs : Nat → Int32} (C : vC K cL_law RL 4 room_1) (X : LX K b L xs) (hi4 : i + 4 ≤ L) (hL : L ≤ 2048) (hB : B + 2001 < 2 ^ 30) (hN : NX A w (lo w g) (hi w g) B) (hcs : c ≤ 628067 ∧ s ≤ 7218046) (kk : ∀ g' : pM, NX A w (lo w g') (hi w g') (B + 2000) → V K c s P A g' [(0, .ref b), (1, .ref (A (w + 15010))), (2, .ref (A (w + 15100))), (3, .int (nI i))] 803 []) : V K c s P A g [(0, .ref b), (1, .ref (A (w + 15010))), (2, .ref (A (w + 15100))), (3, .int (nI i))] 181 [] := by
  obtain ⟨cs, σ, ks, hX, hM, hKP, hS, hk2⟩ := hN
  refine g_aload_n (pc := 181) C dL_law_181 1 rfl ?_
  refine g_aload_n (pc := 182) C dL_law_182 0 rfl ?_
  refine g_iload_n (pc := 183) C dL_law_183 3 rfl ?_
  refine g_iconst (pc := 184) C dL_law_184 (v := nI 1) rfl ?_
  refine g_iadd (pc := 185) C dL_law_185 (z := nI (i + 1)) (nI_add _ _) ?_
  refine g_sld (pc := 186) C X (iv := i + 1) (nI_clamp (by omega)) (nI_in0 (by omega) (by omega)) dL_law_186 ?_
  refine g_aload_n (pc := 187) C dL_law_187 0 rfl ?_
  refine g_iload_n (pc := 188) C dL_law_188 3 rfl ?_
  refine g_iconst (pc := 189) C dL_law_189 (v := nI 2) rfl ?_
  refine g_iadd (pc := 190) C dL_law_190 (z := nI (i + 2)) (nI_add _ _) ?_
  refine g_sld (pc := 191) C X (iv := i + 2) (nI_clamp (by omega)) (nI_in0 (by omega) (by omega)) dL_law_191 ?_
  refine g_aload_n (pc := 192) C dL_law_192 0 rfl ?_
  refine g_iload_n (pc := 193) C dL_law_193 3 rfl ?_
  refine g_iconst (pc := 194) C dL_law_194 (v := nI 3) rfl ?_
  refine g_iadd (pc := 195) C dL_law_195 (z := nI (i + 3)) (nI_add _ _) ?_
  refine g_sld (pc := 196) C X (iv := i + 3) (nI_clamp (by omega)) (nI_in0 (by omega) (by omega)) dL_law_196 ?_
  refine g_callV (pc := 197) C (As := [.int (xs (i + 1)), .int (xs (i + 2)), .int (xs (i + 3))]) (rest := []) (b := w + 15010) (pm_lo (w := w) (c_X10_walks A _ _ w (xs (i + 1)) (xs (i + 2)) (xs (i + 3)) hS hX)) (lo_at hX.1 (by omega)) rfl rfl Y_X10_walks u_348 N_X10_walks ⟨by decide, by decide⟩ hcs (Nat.le_of_ble_eq_true rfl) rfl dL_law_197 ?_
  rintro v _ _ f ⟨rfl, rfl, h1, hf1⟩
  obtain ⟨r, rfl⟩ : ∃ r, v = some (.int r) := by
    rcases h1 with ⟨_, ev, _⟩ | ⟨_, _, _, _, _, _, _, _, _, _, _, (⟨_, ev, _⟩ | ⟨_, ev, _⟩)⟩
    · exact ⟨_, ev⟩
    · exact ⟨_, ev⟩
    · exact ⟨_, ev⟩
  rw [← hf1] at hM hKP
  show V K c s P A f [(0, .ref b), (1, .ref (A (w + 15010))), (2, .ref (A (w + 15100))), (3, .int (nI i))] 200 [.int r]
  refine g_aload_n (pc := 200) C dL_law_200 2 rfl ?_
  refine g_aload_n (pc := 201) C dL_law_201 0 rfl ?_
  refine g_iload_n (pc := 202) C dL_law_202 3 rfl ?_
  refine g_iconst (pc := 203) C dL_law_203 (v := nI 1) rfl ?_
  refine g_iadd (pc := 204) C dL_law_204 (z := nI (i + 1)) (nI_add _ _) ?_
  refine g_sld (pc := 205) C X (iv := i + 1) (nI_clamp (by omega)) (nI_in0 (by omega) (by omega)) dL_law_205 ?_
  refine g_aload_n (pc := 206) C dL_law_206 0 rfl ?_
  refine g_iload_n (pc := 207) C dL_law_207 3 rfl ?_
  refine g_iconst (pc := 208) C dL_law_208 (v := nI 2) rfl ?_
  refine g_iadd (pc := 209) C dL_law_209 (z := nI (i + 2)) (nI_add _ _) ?_
  refine g_sld (pc := 210) C X (iv := i + 2) (nI_clamp (by omega)) (nI_in0 (by omega) (by omega)) dL_law_210 ?_
  refine g_aload_n (pc := 211) C dL_law_211 0 rfl ?_
  refine g_iload_n (pc := 212) C dL_law_212 3 rfl ?_
  refine g_iconst (pc := 213) C dL_law_213 (v := nI 3) rfl ?_
  refine g_iadd (pc := 214) C dL_law_214 (z := nI (i + 3)) (nI_add _ _) ?_
  refine g_sld (pc := 215) C X (iv := i + 3) (nI_clamp (by omega)) (nI_in0 (by omega) (by omega)) dL_law_215 ?_
  refine g_callV (pc := 216) C (As := [.int (xs (i + 1)), .int (xs (i + 2)), .int (xs (i + 3))]) (rest := [.int r]) (b := w + 15100) (pm_hi (w := w) (c_X11_walks A _ _ (w + 15100) (xs (i + 1)) (xs (i + 2)) (xs (i + 3)) hS hM)) (hi_at (MM.ob hM).choose_spec (by omega)) rfl rfl Y_X11_walks u_911 N_X11_walks ⟨by decide, by decide⟩ hcs (Nat.le_of_ble_eq_true rfl) rfl dL_law_216 ?_
  rintro v _ _ f2 ⟨rfl, rfl, h2, hf2⟩
  obtain ⟨r2, rfl⟩ : ∃ r, v = some (.int r) := by
    rcases h2 with ⟨_, ev, _⟩ | ⟨_, _, _, _, _, _, _, _, _, _, _, (⟨_, ev, _⟩ | ⟨_, ev, _, _⟩)⟩
    · exact ⟨_, ev⟩
    · exact ⟨_, ev⟩
    · exact ⟨_, ev⟩
  show V K c s P A f2 [(0, .ref b), (1, .ref (A (w + 15010))), (2, .ref (A (w + 15100))), (3, .int (nI i))] 219 [.int r2, .int r]
  have E := a_walks hB hS hk2 hX hM hKP h1 h2
  exact g_icmp_eq (pc := 219) C dL_law_219 (tgt := 803) (by decide) (fun _ => kk f2 (by rw [hf2]; exact E.2)) (fun q => absurd E.1 q)
set_option maxRecDepth 20000 in
set_option maxHeartbeats 4000000 in
theorem l_coin {K : vT} {P : List Nat} {A : Nat → Nat} {g : pM} {b L w B i c s : Nat} {xs : Nat → Int32} (C : vC K cL_law RL 4 room_1) (X : LX K b L xs) (hi4 : i + 4 ≤ L) (hL : L ≤ 2048) (hB : B + 2001 < 2 ^ 30) (hN : NX A w (lo w g) (hi w g) B) (hcs : c ≤ 628067 ∧ s ≤ 7218046) (kk : ∀ g' : pM, NX A w (lo w g') (hi w g') (B + 2000) → V K c s P A g' [(0, .ref b), (1, .ref (A (w + 15010))), (2, .ref (A (w + 15100))), (3, .int (nI i))] 803 []) : V K c s P A g [(0, .ref b), (1, .ref (A (w + 15010))), (2, .ref (A (w + 15100))), (3, .int (nI i))] 224 [] := by
  obtain ⟨cs, σ, ks, hX, hM, hKP, hS, hk2⟩ := hN
  refine g_aload_n (pc := 224) C dL_law_224 1 rfl ?_
  refine g_aload_n (pc := 225) C dL_law_225 0 rfl ?_
  refine g_iload_n (pc := 226) C dL_law_226 3 rfl ?_
  refine g_iconst (pc := 227) C dL_law_227 (v := nI 1) rfl ?_
  refine g_iadd (pc := 228) C dL_law_228 (z := nI (i + 1)) (nI_add _ _) ?_
  refine g_sld (pc := 229) C X (iv := i + 1) (nI_clamp (by omega)) (nI_in0 (by omega) (by omega)) dL_law_229 ?_
  refine g_callV (pc := 230) C (As := [.int (xs (i + 1))]) (rest := []) (b := w + 15010) (pm_lo (w := w) (c_X10_coin A _ _ w (xs (i + 1)) hX (B := B))) (lo_at hX.1 (by omega)) rfl rfl Y_X10_coin u_352 N_X10_coin ⟨by decide, by decide⟩ hcs (Nat.le_of_ble_eq_true rfl) rfl dL_law_230 ?_
  rintro v _ _ f ⟨rfl, rfl, h1, hf1⟩
  obtain ⟨r, rfl⟩ : ∃ r, v = some (.int r) := by
    rcases h1 with ⟨_, ev, _⟩ | ⟨_, _, _, (⟨_, ev, _⟩ | ⟨_, ev, _⟩)⟩
    · exact ⟨_, ev⟩
    · exact ⟨_, ev⟩
    · exact ⟨_, ev⟩
  rw [← hf1] at hM hKP
  show V K c s P A f [(0, .ref b), (1, .ref (A (w + 15010))), (2, .ref (A (w + 15100))), (3, .int (nI i))] 233 [.int r]
  refine g_aload_n (pc := 233) C dL_law_233 2 rfl ?_
  refine g_aload_n (pc := 234) C dL_law_234 0 rfl ?_
  refine g_iload_n (pc := 235) C dL_law_235 3 rfl ?_
  refine g_iconst (pc := 236) C dL_law_236 (v := nI 1) rfl ?_
  refine g_iadd (pc := 237) C dL_law_237 (z := nI (i + 1)) (nI_add _ _) ?_
  refine g_sld (pc := 238) C X (iv := i + 1) (nI_clamp (by omega)) (nI_in0 (by omega) (by omega)) dL_law_238 ?_
  refine g_callV (pc := 239) C (As := [.int (xs (i + 1))]) (rest := [.int r]) (b := w + 15100) (pm_hi (w := w) (c_X11_coin A _ _ (w + 15100) (xs (i + 1)) hS hM)) (hi_at (MM.ob hM).choose_spec (by omega)) rfl rfl Y_X11_coin u_917 N_X11_coin ⟨by decide, by decide⟩ hcs (Nat.le_of_ble_eq_true rfl) rfl dL_law_239 ?_
  rintro v _ _ f2 ⟨rfl, rfl, h2, hf2⟩
  obtain ⟨r2, rfl⟩ : ∃ r, v = some (.int r) := by
    rcases h2 with ⟨_, ev, _⟩ | ⟨_, _, _, (⟨_, ev, _, _⟩ | ⟨_, ev, _, _⟩)⟩
    · exact ⟨_, ev⟩
    · exact ⟨_, ev⟩
    · exact ⟨_, ev⟩
  show V K c s P A f2 [(0, .ref b), (1, .ref (A (w + 15010))), (2, .ref (A (w + 15100))), (3, .int (nI i))] 242 [.int r2, .int r]
  have E := a_coin hB hS hk2 hX hM hKP h1 h2
  exact g_icmp_eq (pc := 242) C dL_law_242 (tgt := 803) (by decide) (fun _ => kk f2 (by rw [hf2]; exact E.2)) (fun q => absurd E.1 q)
set_option maxRecDepth 20000 in
set_option maxHeartbeats 4000000 in
theorem l_node {K : vT} {P : List Nat} {A : Nat → Nat} {g : pM} {b L w B i c s : Nat} {xs : Nat → Int32} (C : vC K cL_law RL 4 room_1) (X : LX K b L xs) (hi4 : i + 4 ≤ L) (hL : L ≤ 2048) (hB : B + 2001 < 2 ^ 30) (hN : NX A w (lo w g) (hi w g) B) (hcs : c ≤ 628067 ∧ s ≤ 7218046) (kk : ∀ g' : pM, NX A w (lo w g') (hi w g') (B + 2000) → V K c s P A g' [(0, .ref b), (1, .ref (A (w + 15010))), (2, .ref (A (w + 15100))), (3, .int (nI i))] 803 []) : V K c s P A g [(0, .ref b), (1, .ref (A (w + 15010))), (2, .ref (A (w + 15100))), (3, .int (nI i))] 247 [] := by
  obtain ⟨cs, σ, ks, hX, hM, hKP, hS, hk2⟩ := hN
  refine g_aload_n (pc := 247) C dL_law_247 1 rfl ?_
  refine g_callV (pc := 248) C (As := []) (rest := []) (b := w + 15010) (pm_lo (w := w) (c_X10_node A _ _ w hS hX)) (lo_at hX.1 (by omega)) rfl rfl Y_X10_node u_360 N_X10_node ⟨by decide, by decide⟩ hcs (Nat.le_of_ble_eq_true rfl) rfl dL_law_248 ?_
  rintro v _ _ f ⟨rfl, rfl, h1, hf1⟩
  obtain ⟨r, rfl⟩ : ∃ r, v = some (.int r) := by
    rcases h1 with ⟨_, ev, _⟩ | ⟨_, ev, _⟩
    · exact ⟨_, ev⟩
    · exact ⟨_, ev⟩
  rw [← hf1] at hM hKP
  show V K c s P A f [(0, .ref b), (1, .ref (A (w + 15010))), (2, .ref (A (w + 15100))), (3, .int (nI i))] 251 [.int r]
  refine g_aload_n (pc := 251) C dL_law_251 2 rfl ?_
  refine g_callV (pc := 252) C (As := []) (rest := [.int r]) (b := w + 15100) (pm_hi (w := w) (c_X11_node A _ _ (w + 15100) hS hM)) (hi_at (MM.ob hM).choose_spec (by omega)) rfl rfl Y_X11_node u_921 N_X11_node ⟨by decide, by decide⟩ hcs (Nat.le_of_ble_eq_true rfl) rfl dL_law_252 ?_
  rintro v _ _ f2 ⟨rfl, rfl, h2, hf2⟩
  obtain ⟨r2, rfl⟩ : ∃ r, v = some (.int r) := by
    rcases h2 with ⟨_, ev, _⟩ | ⟨_, ev, _, _⟩
    · exact ⟨_, ev⟩
    · exact ⟨_, ev⟩
  show V K c s P A f2 [(0, .ref b), (1, .ref (A (w + 15010))), (2, .ref (A (w + 15100))), (3, .int (nI i))] 255 [.int r2, .int r]
  have E := a_node hB hS hk2 hX hM hKP h1 h2
  exact g_icmp_eq (pc := 255) C dL_law_255 (tgt := 803) (by decide) (fun _ => kk f2 (by rw [hf2]; exact E.2)) (fun q => absurd E.1 q)
set_option maxRecDepth 20000 in
set_option maxHeartbeats 4000000 in
theorem l_join {K : vT} {P : List Nat} {A : Nat → Nat} {g : pM} {b L w B i c s : Nat} {xs : Nat → Int32} (C : vC K cL_law RL 4 room_1) (X : LX K b L xs) (hi4 : i + 4 ≤ L) (hL : L ≤ 2048) (hB : B + 2001 < 2 ^ 30) (hN : NX A w (lo w g) (hi w g) B) (hcs : c ≤ 628067 ∧ s ≤ 7218046) (kk : ∀ g' : pM, NX A w (lo w g') (hi w g') (B + 2000) → V K c s P A g' [(0, .ref b), (1, .ref (A (w + 15010))), (2, .ref (A (w + 15100))), (3, .int (nI i))] 803 []) : V K c s P A g [(0, .ref b), (1, .ref (A (w + 15010))), (2, .ref (A (w + 15100))), (3, .int (nI i))] 260 [] := by
  obtain ⟨cs, σ, ks, hX, hM, hKP, hS, hk2⟩ := hN
  refine g_aload_n (pc := 260) C dL_law_260 1 rfl ?_
  refine g_aload_n (pc := 261) C dL_law_261 0 rfl ?_
  refine g_iload_n (pc := 262) C dL_law_262 3 rfl ?_
  refine g_iconst (pc := 263) C dL_law_263 (v := nI 1) rfl ?_
  refine g_iadd (pc := 264) C dL_law_264 (z := nI (i + 1)) (nI_add _ _) ?_
  refine g_sld (pc := 265) C X (iv := i + 1) (nI_clamp (by omega)) (nI_in0 (by omega) (by omega)) dL_law_265 ?_
  refine g_aload_n (pc := 266) C dL_law_266 0 rfl ?_
  refine g_iload_n (pc := 267) C dL_law_267 3 rfl ?_
  refine g_iconst (pc := 268) C dL_law_268 (v := nI 2) rfl ?_
  refine g_iadd (pc := 269) C dL_law_269 (z := nI (i + 2)) (nI_add _ _) ?_
  refine g_sld (pc := 270) C X (iv := i + 2) (nI_clamp (by omega)) (nI_in0 (by omega) (by omega)) dL_law_270 ?_
  refine g_callV (pc := 271) C (As := [.int (xs (i + 1)), .int (xs (i + 2))]) (rest := []) (b := w + 15010) (pm_lo (w := w) (c_X10_join A _ _ w (xs (i + 1)) (xs (i + 2)) hS hX)) (lo_at hX.1 (by omega)) rfl rfl Y_X10_join u_381 N_X10_join ⟨by decide, by decide⟩ hcs (Nat.le_of_ble_eq_true rfl) rfl dL_law_271 ?_
  rintro v _ _ f ⟨rfl, rfl, h1, hf1⟩
  obtain ⟨r, rfl⟩ : ∃ r, v = some (.int r) := by
    rcases h1 with ⟨_, ev, _⟩ | ⟨_, _, _, _, _, _, (⟨_, ev, _⟩ | ⟨_, _, (⟨_, ev, _⟩ | ⟨_, ev, _⟩)⟩)⟩
    · exact ⟨_, ev⟩
    · exact ⟨_, ev⟩
    · exact ⟨_, ev⟩
    · exact ⟨_, ev⟩
  rw [← hf1] at hM hKP
  show V K c s P A f [(0, .ref b), (1, .ref (A (w + 15010))), (2, .ref (A (w + 15100))), (3, .int (nI i))] 274 [.int r]
  refine g_aload_n (pc := 274) C dL_law_274 2 rfl ?_
  refine g_aload_n (pc := 275) C dL_law_275 0 rfl ?_
  refine g_iload_n (pc := 276) C dL_law_276 3 rfl ?_
  refine g_iconst (pc := 277) C dL_law_277 (v := nI 1) rfl ?_
  refine g_iadd (pc := 278) C dL_law_278 (z := nI (i + 1)) (nI_add _ _) ?_
  refine g_sld (pc := 279) C X (iv := i + 1) (nI_clamp (by omega)) (nI_in0 (by omega) (by omega)) dL_law_279 ?_
  refine g_aload_n (pc := 280) C dL_law_280 0 rfl ?_
  refine g_iload_n (pc := 281) C dL_law_281 3 rfl ?_
  refine g_iconst (pc := 282) C dL_law_282 (v := nI 2) rfl ?_
  refine g_iadd (pc := 283) C dL_law_283 (z := nI (i + 2)) (nI_add _ _) ?_
  refine g_sld (pc := 284) C X (iv := i + 2) (nI_clamp (by omega)) (nI_in0 (by omega) (by omega)) dL_law_284 ?_
  refine g_callV (pc := 285) C (As := [.int (xs (i + 1)), .int (xs (i + 2))]) (rest := [.int r]) (b := w + 15100) (pm_hi (w := w) (c_X11_join A _ _ (w + 15100) (xs (i + 1)) (xs (i + 2)) hS hM)) (hi_at (MM.ob hM).choose_spec (by omega)) rfl rfl Y_X11_join u_925 N_X11_join ⟨by decide, by decide⟩ hcs (Nat.le_of_ble_eq_true rfl) rfl dL_law_285 ?_
  rintro v _ _ f2 ⟨rfl, rfl, h2, hf2⟩
  obtain ⟨r2, rfl⟩ : ∃ r, v = some (.int r) := by
    rcases h2 with ⟨_, ev, _⟩ | ⟨_, _, _, _, _, _, (⟨_, ev, _⟩ | ⟨_, _, (⟨_, ev, _⟩ | ⟨_, ev, _, _⟩)⟩)⟩
    · exact ⟨_, ev⟩
    · exact ⟨_, ev⟩
    · exact ⟨_, ev⟩
    · exact ⟨_, ev⟩
  show V K c s P A f2 [(0, .ref b), (1, .ref (A (w + 15010))), (2, .ref (A (w + 15100))), (3, .int (nI i))] 288 [.int r2, .int r]
  have E := a_join hB hS hk2 hX hM hKP h1 h2
  exact g_icmp_eq (pc := 288) C dL_law_288 (tgt := 803) (by decide) (fun _ => kk f2 (by rw [hf2]; exact E.2)) (fun q => absurd E.1 q)
set_option maxRecDepth 20000 in
set_option maxHeartbeats 4000000 in
theorem l_stop {K : vT} {P : List Nat} {A : Nat → Nat} {g : pM} {b L w B i c s : Nat} {xs : Nat → Int32} (C : vC K cL_law RL 4 room_1) (X : LX K b L xs) (hi4 : i + 4 ≤ L) (hL : L ≤ 2048) (hB : B + 2001 < 2 ^ 30) (hN : NX A w (lo w g) (hi w g) B) (hcs : c ≤ 628067 ∧ s ≤ 7218046) (kk : ∀ g' : pM, NX A w (lo w g') (hi w g') (B + 2000) → V K c s P A g' [(0, .ref b), (1, .ref (A (w + 15010))), (2, .ref (A (w + 15100))), (3, .int (nI i))] 803 []) : V K c s P A g [(0, .ref b), (1, .ref (A (w + 15010))), (2, .ref (A (w + 15100))), (3, .int (nI i))] 293 [] := by
  obtain ⟨cs, σ, ks, hX, hM, hKP, hS, hk2⟩ := hN
  refine g_aload_n (pc := 293) C dL_law_293 1 rfl ?_
  refine g_aload_n (pc := 294) C dL_law_294 0 rfl ?_
  refine g_iload_n (pc := 295) C dL_law_295 3 rfl ?_
  refine g_iconst (pc := 296) C dL_law_296 (v := nI 1) rfl ?_
  refine g_iadd (pc := 297) C dL_law_297 (z := nI (i + 1)) (nI_add _ _) ?_
  refine g_sld (pc := 298) C X (iv := i + 1) (nI_clamp (by omega)) (nI_in0 (by omega) (by omega)) dL_law_298 ?_
  refine g_callV (pc := 299) C (As := [.int (xs (i + 1))]) (rest := []) (b := w + 15010) (pm_lo (w := w) (c_X10_stop A _ _ w (xs (i + 1)) hS hX)) (lo_at hX.1 (by omega)) rfl rfl Y_X10_stop u_412 N_X10_stop ⟨by decide, by decide⟩ hcs (Nat.le_of_ble_eq_true rfl) rfl dL_law_299 ?_
  rintro v _ _ f ⟨rfl, rfl, h1, hf1⟩
  obtain ⟨r, rfl⟩ : ∃ r, v = some (.int r) := by
    rcases h1 with ⟨_, ev, _⟩ | ⟨_, _, _, _, ev, _⟩
    · exact ⟨_, ev⟩
    · exact ⟨_, ev⟩
  rw [← hf1] at hM hKP
  show V K c s P A f [(0, .ref b), (1, .ref (A (w + 15010))), (2, .ref (A (w + 15100))), (3, .int (nI i))] 302 [.int r]
  refine g_aload_n (pc := 302) C dL_law_302 2 rfl ?_
  refine g_aload_n (pc := 303) C dL_law_303 0 rfl ?_
  refine g_iload_n (pc := 304) C dL_law_304 3 rfl ?_
  refine g_iconst (pc := 305) C dL_law_305 (v := nI 1) rfl ?_
  refine g_iadd (pc := 306) C dL_law_306 (z := nI (i + 1)) (nI_add _ _) ?_
  refine g_sld (pc := 307) C X (iv := i + 1) (nI_clamp (by omega)) (nI_in0 (by omega) (by omega)) dL_law_307 ?_
  refine g_callV (pc := 308) C (As := [.int (xs (i + 1))]) (rest := [.int r]) (b := w + 15100) (pm_hi (w := w) (c_X11_stop A _ _ (w + 15100) (xs (i + 1)) hS hM)) (hi_at (MM.ob hM).choose_spec (by omega)) rfl rfl Y_X11_stop u_949 N_X11_stop ⟨by decide, by decide⟩ hcs (Nat.le_of_ble_eq_true rfl) rfl dL_law_308 ?_
  rintro v _ _ f2 ⟨rfl, rfl, h2, hf2⟩
  obtain ⟨r2, rfl⟩ : ∃ r, v = some (.int r) := by
    rcases h2 with ⟨_, ev, _⟩ | ⟨_, _, _, _, ev, _, _⟩
    · exact ⟨_, ev⟩
    · exact ⟨_, ev⟩
  show V K c s P A f2 [(0, .ref b), (1, .ref (A (w + 15010))), (2, .ref (A (w + 15100))), (3, .int (nI i))] 311 [.int r2, .int r]
  have E := a_stop hB hS hk2 hX hM hKP h1 h2
  exact g_icmp_eq (pc := 311) C dL_law_311 (tgt := 803) (by decide) (fun _ => kk f2 (by rw [hf2]; exact E.2)) (fun q => absurd E.1 q)
set_option maxRecDepth 20000 in
set_option maxHeartbeats 4000000 in
theorem l_mix {K : vT} {P : List Nat} {A : Nat → Nat} {g : pM} {b L w B i c s : Nat} {xs : Nat → Int32} (C : vC K cL_law RL 4 room_1) (X : LX K b L xs) (hi4 : i + 4 ≤ L) (hL : L ≤ 2048) (hB : B + 2001 < 2 ^ 30) (hN : NX A w (lo w g) (hi w g) B) (hcs : c ≤ 628067 ∧ s ≤ 7218046) (kk : ∀ g' : pM, NX A w (lo w g') (hi w g') (B + 2000) → V K c s P A g' [(0, .ref b), (1, .ref (A (w + 15010))), (2, .ref (A (w + 15100))), (3, .int (nI i))] 803 []) : V K c s P A g [(0, .ref b), (1, .ref (A (w + 15010))), (2, .ref (A (w + 15100))), (3, .int (nI i))] 316 [] := by
  obtain ⟨cs, σ, ks, hX, hM, hKP, hS, hk2⟩ := hN
  refine g_aload_n (pc := 316) C dL_law_316 1 rfl ?_
  refine g_aload_n (pc := 317) C dL_law_317 0 rfl ?_
  refine g_iload_n (pc := 318) C dL_law_318 3 rfl ?_
  refine g_iconst (pc := 319) C dL_law_319 (v := nI 1) rfl ?_
  refine g_iadd (pc := 320) C dL_law_320 (z := nI (i + 1)) (nI_add _ _) ?_
  refine g_sld (pc := 321) C X (iv := i + 1) (nI_clamp (by omega)) (nI_in0 (by omega) (by omega)) dL_law_321 ?_
  refine g_callV (pc := 322) C (As := [.int (xs (i + 1))]) (rest := []) (b := w + 15010) (pm_lo (w := w) (c_X10_mix A _ _ w (xs (i + 1)) hS hX)) (lo_at hX.1 (by omega)) rfl rfl Y_X10_mix u_449 N_X10_mix ⟨by decide, by decide⟩ hcs (Nat.le_of_ble_eq_true rfl) rfl dL_law_322 ?_
  rintro v _ _ f ⟨rfl, rfl, h1, hf1⟩
  obtain ⟨r, rfl⟩ : ∃ r, v = some (.int r) := by
    rcases h1 with ⟨_, ev, _⟩ | ⟨_, _, _, _, ev, _⟩
    · exact ⟨_, ev⟩
    · exact ⟨_, ev⟩
  rw [← hf1] at hM hKP
  show V K c s P A f [(0, .ref b), (1, .ref (A (w + 15010))), (2, .ref (A (w + 15100))), (3, .int (nI i))] 325 [.int r]
  refine g_aload_n (pc := 325) C dL_law_325 2 rfl ?_
  refine g_aload_n (pc := 326) C dL_law_326 0 rfl ?_
  refine g_iload_n (pc := 327) C dL_law_327 3 rfl ?_
  refine g_iconst (pc := 328) C dL_law_328 (v := nI 1) rfl ?_
  refine g_iadd (pc := 329) C dL_law_329 (z := nI (i + 1)) (nI_add _ _) ?_
  refine g_sld (pc := 330) C X (iv := i + 1) (nI_clamp (by omega)) (nI_in0 (by omega) (by omega)) dL_law_330 ?_
  refine g_callV (pc := 331) C (As := [.int (xs (i + 1))]) (rest := [.int r]) (b := w + 15100) (pm_hi (w := w) (c_X11_mix A _ _ (w + 15100) (xs (i + 1)) hS hM)) (hi_at (MM.ob hM).choose_spec (by omega)) rfl rfl Y_X11_mix u_969 N_X11_mix ⟨by decide, by decide⟩ hcs (Nat.le_of_ble_eq_true rfl) rfl dL_law_331 ?_
  rintro v _ _ f2 ⟨rfl, rfl, h2, hf2⟩
  obtain ⟨r2, rfl⟩ : ∃ r, v = some (.int r) := by
    rcases h2 with ⟨_, ev, _⟩ | ⟨_, _, _, _, ev, _, _⟩
    · exact ⟨_, ev⟩
    · exact ⟨_, ev⟩
  show V K c s P A f2 [(0, .ref b), (1, .ref (A (w + 15010))), (2, .ref (A (w + 15100))), (3, .int (nI i))] 334 [.int r2, .int r]
  have E := a_mix hB hS hk2 hX hM hKP h1 h2
  exact g_icmp_eq (pc := 334) C dL_law_334 (tgt := 803) (by decide) (fun _ => kk f2 (by rw [hf2]; exact E.2)) (fun q => absurd E.1 q)
set_option maxRecDepth 20000 in
set_option maxHeartbeats 4000000 in
theorem l_tale {K : vT} {P : List Nat} {A : Nat → Nat} {g : pM} {b L w B i c s : Nat} {xs : Nat → Int32} (C : vC K cL_law RL 4 room_1) (X : LX K b L xs) (hi4 : i + 4 ≤ L) (hL : L ≤ 2048) (hB : B + 2001 < 2 ^ 30) (hN : NX A w (lo w g) (hi w g) B) (hcs : c ≤ 628067 ∧ s ≤ 7218046) (kk : ∀ g' : pM, NX A w (lo w g') (hi w g') (B + 2000) → V K c s P A g' [(0, .ref b), (1, .ref (A (w + 15010))), (2, .ref (A (w + 15100))), (3, .int (nI i))] 803 []) : V K c s P A g [(0, .ref b), (1, .ref (A (w + 15010))), (2, .ref (A (w + 15100))), (3, .int (nI i))] 339 [] := by
  obtain ⟨cs, σ, ks, hX, hM, hKP, hS, hk2⟩ := hN
  refine g_aload_n (pc := 339) C dL_law_339 1 rfl ?_
  refine g_aload_n (pc := 340) C dL_law_340 0 rfl ?_
  refine g_iload_n (pc := 341) C dL_law_341 3 rfl ?_
  refine g_iconst (pc := 342) C dL_law_342 (v := nI 1) rfl ?_
  refine g_iadd (pc := 343) C dL_law_343 (z := nI (i + 1)) (nI_add _ _) ?_
  refine g_sld (pc := 344) C X (iv := i + 1) (nI_clamp (by omega)) (nI_in0 (by omega) (by omega)) dL_law_344 ?_
  refine g_callV (pc := 345) C (As := [.int (xs (i + 1))]) (rest := []) (b := w + 15010) (pm_lo (w := w) (c_X10_tale A _ _ w (xs (i + 1)) hS hX)) (lo_at hX.1 (by omega)) rfl rfl Y_X10_tale u_506 N_X10_tale ⟨by decide, by decide⟩ hcs (Nat.le_of_ble_eq_true rfl) rfl dL_law_345 ?_
  rintro v _ _ f ⟨rfl, rfl, h1, hf1⟩
  obtain ⟨r, rfl⟩ : ∃ r, v = some (.int r) := by
    rcases h1 with ⟨_, ev, _⟩ | ⟨_, _, _, _, (⟨_, ev, _⟩ | ⟨_, ev, _⟩)⟩
    · exact ⟨_, ev⟩
    · exact ⟨_, ev⟩
    · exact ⟨_, ev⟩
  rw [← hf1] at hM hKP
  show V K c s P A f [(0, .ref b), (1, .ref (A (w + 15010))), (2, .ref (A (w + 15100))), (3, .int (nI i))] 348 [.int r]
  refine g_aload_n (pc := 348) C dL_law_348 2 rfl ?_
  refine g_aload_n (pc := 349) C dL_law_349 0 rfl ?_
  refine g_iload_n (pc := 350) C dL_law_350 3 rfl ?_
  refine g_iconst (pc := 351) C dL_law_351 (v := nI 1) rfl ?_
  refine g_iadd (pc := 352) C dL_law_352 (z := nI (i + 1)) (nI_add _ _) ?_
  refine g_sld (pc := 353) C X (iv := i + 1) (nI_clamp (by omega)) (nI_in0 (by omega) (by omega)) dL_law_353 ?_
  refine g_callV (pc := 354) C (As := [.int (xs (i + 1))]) (rest := [.int r]) (b := w + 15100) (pm_hi (w := w) (c_X11_tale A _ _ (w + 15100) (xs (i + 1)) hS hM)) (hi_at (MM.ob hM).choose_spec (by omega)) rfl rfl Y_X11_tale u_989 N_X11_tale ⟨by decide, by decide⟩ hcs (Nat.le_of_ble_eq_true rfl) rfl dL_law_354 ?_
  rintro v _ _ f2 ⟨rfl, rfl, h2, hf2⟩
  obtain ⟨r2, rfl⟩ : ∃ r, v = some (.int r) := by
    rcases h2 with ⟨_, ev, _⟩ | ⟨_, _, _, _, (⟨_, ev, _⟩ | ⟨_, ev, _, _⟩)⟩
    · exact ⟨_, ev⟩
    · exact ⟨_, ev⟩
    · exact ⟨_, ev⟩
  show V K c s P A f2 [(0, .ref b), (1, .ref (A (w + 15010))), (2, .ref (A (w + 15100))), (3, .int (nI i))] 357 [.int r2, .int r]
  have E := a_tale hB hS hk2 hX hM hKP h1 h2
  exact g_icmp_eq (pc := 357) C dL_law_357 (tgt := 803) (by decide) (fun _ => kk f2 (by rw [hf2]; exact E.2)) (fun q => absurd E.1 q)
set_option maxRecDepth 20000 in
set_option maxHeartbeats 4000000 in
theorem l_tick {K : vT} {P : List Nat} {A : Nat → Nat} {g : pM} {b L w B i c s : Nat} {xs : Nat → Int32} (C : vC K cL_law RL 4 room_1) (X : LX K b L xs) (hi4 : i + 4 ≤ L) (hL : L ≤ 2048) (hB : B + 2001 < 2 ^ 30) (hN : NX A w (lo w g) (hi w g) B) (hcs : c ≤ 628067 ∧ s ≤ 7218046) (kk : ∀ g' : pM, NX A w (lo w g') (hi w g') (B + 2000) → V K c s P A g' [(0, .ref b), (1, .ref (A (w + 15010))), (2, .ref (A (w + 15100))), (3, .int (nI i))] 803 []) : V K c s P A g [(0, .ref b), (1, .ref (A (w + 15010))), (2, .ref (A (w + 15100))), (3, .int (nI i))] 362 [] := by
  obtain ⟨cs, σ, ks, hX, hM, hKP, hS, hk2⟩ := hN
  refine g_aload_n (pc := 362) C dL_law_362 1 rfl ?_
  refine g_callV (pc := 363) C (As := []) (rest := []) (b := w + 15010) (pm_lo (w := w) (c_X10_tick A _ _ w hS hX)) (lo_at hX.1 (by omega)) rfl rfl Y_X10_tick u_528 N_X10_tick ⟨by decide, by decide⟩ hcs (Nat.le_of_ble_eq_true rfl) rfl dL_law_363 ?_
  rintro v _ _ f ⟨rfl, rfl, h1, hf1⟩
  obtain ⟨r, rfl⟩ : ∃ r, v = some (.int r) := by
    rcases h1 with ⟨ev, _⟩
    · exact ⟨_, ev⟩
  rw [← hf1] at hM hKP
  show V K c s P A f [(0, .ref b), (1, .ref (A (w + 15010))), (2, .ref (A (w + 15100))), (3, .int (nI i))] 366 [.int r]
  refine g_aload_n (pc := 366) C dL_law_366 2 rfl ?_
  refine g_callV (pc := 367) C (As := []) (rest := [.int r]) (b := w + 15100) (pm_hi (w := w) (c_X11_tick A _ _ (w + 15100) hS hM)) (hi_at (MM.ob hM).choose_spec (by omega)) rfl rfl Y_X11_tick u_997 N_X11_tick ⟨by decide, by decide⟩ hcs (Nat.le_of_ble_eq_true rfl) rfl dL_law_367 ?_
  rintro v _ _ f2 ⟨rfl, rfl, h2, hf2⟩
  obtain ⟨r2, rfl⟩ : ∃ r, v = some (.int r) := by
    rcases h2 with ⟨ev, _, _⟩
    · exact ⟨_, ev⟩
  show V K c s P A f2 [(0, .ref b), (1, .ref (A (w + 15010))), (2, .ref (A (w + 15100))), (3, .int (nI i))] 370 [.int r2, .int r]
  have E := a_tick hB hS hk2 hX hM hKP h1 h2
  exact g_icmp_eq (pc := 370) C dL_law_370 (tgt := 803) (by decide) (fun _ => kk f2 (by rw [hf2]; exact E.2)) (fun q => absurd E.1 q)
set_option maxRecDepth 20000 in
set_option maxHeartbeats 4000000 in
theorem l_deliver {K : vT} {P : List Nat} {A : Nat → Nat} {g : pM} {b L w B i c s : Nat} {xs : Nat → Int32} (C : vC K cL_law RL 4 room_1) (X : LX K b L xs) (hi4 : i + 4 ≤ L) (hL : L ≤ 2048) (hB : B + 2001 < 2 ^ 30) (hN : NX A w (lo w g) (hi w g) B) (hcs : c ≤ 628067 ∧ s ≤ 7218046) (kk : ∀ g' : pM, NX A w (lo w g') (hi w g') (B + 2000) → V K c s P A g' [(0, .ref b), (1, .ref (A (w + 15010))), (2, .ref (A (w + 15100))), (3, .int (nI i))] 803 []) : V K c s P A g [(0, .ref b), (1, .ref (A (w + 15010))), (2, .ref (A (w + 15100))), (3, .int (nI i))] 375 [] := by
  obtain ⟨cs, σ, ks, hX, hM, hKP, hS, hk2⟩ := hN
  refine g_aload_n (pc := 375) C dL_law_375 1 rfl ?_
  refine g_aload_n (pc := 376) C dL_law_376 0 rfl ?_
  refine g_iload_n (pc := 377) C dL_law_377 3 rfl ?_
  refine g_iconst (pc := 378) C dL_law_378 (v := nI 1) rfl ?_
  refine g_iadd (pc := 379) C dL_law_379 (z := nI (i + 1)) (nI_add _ _) ?_
  refine g_sld (pc := 380) C X (iv := i + 1) (nI_clamp (by omega)) (nI_in0 (by omega) (by omega)) dL_law_380 ?_
  refine g_callV (pc := 381) C (As := [.int (xs (i + 1))]) (rest := []) (b := w + 15010) (pm_lo (w := w) (c_X10_deliver A _ _ w (xs (i + 1)) (by omega) hS hX)) (lo_at hX.1 (by omega)) rfl rfl Y_X10_deliver u_556 N_X10_deliver ⟨by decide, by decide⟩ hcs (Nat.le_of_ble_eq_true rfl) rfl dL_law_381 ?_
  rintro v _ _ f ⟨rfl, rfl, h1, hf1⟩
  obtain ⟨r, rfl⟩ : ∃ r, v = some (.int r) := by
    rcases h1 with ⟨_, ev, _⟩ | ⟨_, _, _, (⟨_, ev, _⟩ | ⟨_, ⟨_, _, ev, _⟩⟩)⟩
    · exact ⟨_, ev⟩
    · exact ⟨_, ev⟩
    · exact ⟨_, ev⟩
  rw [← hf1] at hM hKP
  show V K c s P A f [(0, .ref b), (1, .ref (A (w + 15010))), (2, .ref (A (w + 15100))), (3, .int (nI i))] 384 [.int r]
  refine g_aload_n (pc := 384) C dL_law_384 2 rfl ?_
  refine g_aload_n (pc := 385) C dL_law_385 0 rfl ?_
  refine g_iload_n (pc := 386) C dL_law_386 3 rfl ?_
  refine g_iconst (pc := 387) C dL_law_387 (v := nI 1) rfl ?_
  refine g_iadd (pc := 388) C dL_law_388 (z := nI (i + 1)) (nI_add _ _) ?_
  refine g_sld (pc := 389) C X (iv := i + 1) (nI_clamp (by omega)) (nI_in0 (by omega) (by omega)) dL_law_389 ?_
  refine g_callV (pc := 390) C (As := [.int (xs (i + 1))]) (rest := [.int r]) (b := w + 15100) (pm_hi (w := w) (c_X11_deliver A _ _ (w + 15100) (xs (i + 1)) (by omega) hS hM)) (hi_at (MM.ob hM).choose_spec (by omega)) rfl rfl Y_X11_deliver u_1009 N_X11_deliver ⟨by decide, by decide⟩ hcs (Nat.le_of_ble_eq_true rfl) rfl dL_law_390 ?_
  rintro v _ _ f2 ⟨rfl, rfl, h2, hf2⟩
  obtain ⟨r2, rfl⟩ : ∃ r, v = some (.int r) := by
    rcases h2 with ⟨_, ev, _⟩ | ⟨_, _, _, (⟨_, ev, _⟩ | ⟨_, ⟨_, _, ev, _, _⟩⟩)⟩
    · exact ⟨_, ev⟩
    · exact ⟨_, ev⟩
    · exact ⟨_, ev⟩
  show V K c s P A f2 [(0, .ref b), (1, .ref (A (w + 15010))), (2, .ref (A (w + 15100))), (3, .int (nI i))] 393 [.int r2, .int r]
  have E := a_deliver hB hS hk2 hX hM hKP h1 h2
  exact g_icmp_eq (pc := 393) C dL_law_393 (tgt := 803) (by decide) (fun _ => kk f2 (by rw [hf2]; exact E.2)) (fun q => absurd E.1 q)
set_option maxRecDepth 20000 in
set_option maxHeartbeats 4000000 in
theorem l_go {K : vT} {P : List Nat} {A : Nat → Nat} {g : pM} {b L w B i c s : Nat} {xs : Nat → Int32} (C : vC K cL_law RL 4 room_1) (X : LX K b L xs) (hi4 : i + 4 ≤ L) (hL : L ≤ 2048) (hB : B + 2001 < 2 ^ 30) (hN : NX A w (lo w g) (hi w g) B) (hcs : c ≤ 628067 ∧ s ≤ 7218046) (kk : ∀ g' : pM, NX A w (lo w g') (hi w g') (B + 2000) → V K c s P A g' [(0, .ref b), (1, .ref (A (w + 15010))), (2, .ref (A (w + 15100))), (3, .int (nI i))] 803 []) : V K c s P A g [(0, .ref b), (1, .ref (A (w + 15010))), (2, .ref (A (w + 15100))), (3, .int (nI i))] 398 [] := by
  obtain ⟨cs, σ, ks, hX, hM, hKP, hS, hk2⟩ := hN
  refine g_aload_n (pc := 398) C dL_law_398 1 rfl ?_
  refine g_aload_n (pc := 399) C dL_law_399 0 rfl ?_
  refine g_iload_n (pc := 400) C dL_law_400 3 rfl ?_
  refine g_iconst (pc := 401) C dL_law_401 (v := nI 1) rfl ?_
  refine g_iadd (pc := 402) C dL_law_402 (z := nI (i + 1)) (nI_add _ _) ?_
  refine g_sld (pc := 403) C X (iv := i + 1) (nI_clamp (by omega)) (nI_in0 (by omega) (by omega)) dL_law_403 ?_
  refine g_callV (pc := 404) C (As := [.int (xs (i + 1))]) (rest := []) (b := w + 15010) (pm_lo (w := w) (c_X10_go A _ _ w (xs (i + 1)) (by omega) hS hX)) (lo_at hX.1 (by omega)) rfl rfl Y_X10_go u_696 N_X10_go ⟨by decide, by decide⟩ hcs (Nat.le_of_ble_eq_true rfl) rfl dL_law_404 ?_
  rintro v _ _ f ⟨rfl, rfl, h1, hf1⟩
  obtain ⟨r, rfl⟩ : ∃ r, v = some (.int r) := by
    rcases h1 with ⟨_, ev, _⟩ | ⟨_, _, _, ev, _, _⟩
    · exact ⟨_, ev⟩
    · exact ⟨_, ev⟩
  rw [← hf1] at hM hKP
  show V K c s P A f [(0, .ref b), (1, .ref (A (w + 15010))), (2, .ref (A (w + 15100))), (3, .int (nI i))] 407 [.int r]
  refine g_aload_n (pc := 407) C dL_law_407 2 rfl ?_
  refine g_aload_n (pc := 408) C dL_law_408 0 rfl ?_
  refine g_iload_n (pc := 409) C dL_law_409 3 rfl ?_
  refine g_iconst (pc := 410) C dL_law_410 (v := nI 1) rfl ?_
  refine g_iadd (pc := 411) C dL_law_411 (z := nI (i + 1)) (nI_add _ _) ?_
  refine g_sld (pc := 412) C X (iv := i + 1) (nI_clamp (by omega)) (nI_in0 (by omega) (by omega)) dL_law_412 ?_
  refine g_callV (pc := 413) C (As := [.int (xs (i + 1))]) (rest := [.int r]) (b := w + 15100) (pm_hi (w := w) (c_X11_go A _ _ (w + 15100) (xs (i + 1)) (by omega) hS hM)) (hi_at (MM.ob hM).choose_spec (by omega)) rfl rfl Y_X11_go u_1069 N_X11_go ⟨by decide, by decide⟩ hcs (Nat.le_of_ble_eq_true rfl) rfl dL_law_413 ?_
  rintro v _ _ f2 ⟨rfl, rfl, h2, hf2⟩
  obtain ⟨r2, rfl⟩ : ∃ r, v = some (.int r) := by
    rcases h2 with ⟨_, ev, _⟩ | ⟨_, _, _, ev, _, _⟩
    · exact ⟨_, ev⟩
    · exact ⟨_, ev⟩
  show V K c s P A f2 [(0, .ref b), (1, .ref (A (w + 15010))), (2, .ref (A (w + 15100))), (3, .int (nI i))] 416 [.int r2, .int r]
  have E := a_go hB hS hk2 hX hM hKP h1 h2
  exact g_icmp_eq (pc := 416) C dL_law_416 (tgt := 803) (by decide) (fun _ => kk f2 (by rw [hf2]; exact E.2)) (fun q => absurd E.1 q)
set_option maxRecDepth 20000 in
set_option maxHeartbeats 4000000 in
theorem l_view {K : vT} {P : List Nat} {A : Nat → Nat} {g : pM} {b L w B i c s : Nat} {xs : Nat → Int32} (C : vC K cL_law RL 4 room_1) (X : LX K b L xs) (hi4 : i + 4 ≤ L) (hL : L ≤ 2048) (hB : B + 2001 < 2 ^ 30) (hN : NX A w (lo w g) (hi w g) B) (hcs : c ≤ 628067 ∧ s ≤ 7218046) (kk : ∀ g' : pM, NX A w (lo w g') (hi w g') (B + 2000) → V K c s P A g' [(0, .ref b), (1, .ref (A (w + 15010))), (2, .ref (A (w + 15100))), (3, .int (nI i))] 803 []) : V K c s P A g [(0, .ref b), (1, .ref (A (w + 15010))), (2, .ref (A (w + 15100))), (3, .int (nI i))] 421 [] := by
  obtain ⟨cs, σ, ks, hX, hM, hKP, hS, hk2⟩ := hN
  refine g_aload_n (pc := 421) C dL_law_421 1 rfl ?_
  refine g_aload_n (pc := 422) C dL_law_422 0 rfl ?_
  refine g_iload_n (pc := 423) C dL_law_423 3 rfl ?_
  refine g_iconst (pc := 424) C dL_law_424 (v := nI 1) rfl ?_
  refine g_iadd (pc := 425) C dL_law_425 (z := nI (i + 1)) (nI_add _ _) ?_
  refine g_sld (pc := 426) C X (iv := i + 1) (nI_clamp (by omega)) (nI_in0 (by omega) (by omega)) dL_law_426 ?_
  refine g_aload_n (pc := 427) C dL_law_427 0 rfl ?_
  refine g_iload_n (pc := 428) C dL_law_428 3 rfl ?_
  refine g_iconst (pc := 429) C dL_law_429 (v := nI 2) rfl ?_
  refine g_iadd (pc := 430) C dL_law_430 (z := nI (i + 2)) (nI_add _ _) ?_
  refine g_sld (pc := 431) C X (iv := i + 2) (nI_clamp (by omega)) (nI_in0 (by omega) (by omega)) dL_law_431 ?_
  refine g_aload_n (pc := 432) C dL_law_432 0 rfl ?_
  refine g_iload_n (pc := 433) C dL_law_433 3 rfl ?_
  refine g_iconst (pc := 434) C dL_law_434 (v := nI 3) rfl ?_
  refine g_iadd (pc := 435) C dL_law_435 (z := nI (i + 3)) (nI_add _ _) ?_
  refine g_sld (pc := 436) C X (iv := i + 3) (nI_clamp (by omega)) (nI_in0 (by omega) (by omega)) dL_law_436 ?_
  refine g_callV (pc := 437) C (As := [.int (xs (i + 1)), .int (xs (i + 2)), .int (xs (i + 3))]) (rest := []) (b := w + 15010) (pm_lo (w := w) (c_X10_view A _ _ w (xs (i + 1)) (xs (i + 2)) (xs (i + 3)) hX.1 hX.wd)) (lo_at hX.1 (by omega)) rfl rfl Y_X10_view u_700 N_X10_view ⟨by decide, by decide⟩ hcs (Nat.le_of_ble_eq_true rfl) rfl dL_law_437 ?_
  rintro v _ _ f ⟨rfl, rfl, h1, hf1⟩
  obtain ⟨r, rfl⟩ : ∃ r, v = some (.int r) := by
    rcases h1 with ⟨(⟨_, ev⟩ | ⟨_, _, _, (⟨_, _, ev⟩ | ⟨_, ev⟩ | ⟨_, ev⟩)⟩), _⟩
    · exact ⟨_, ev⟩
    · exact ⟨_, ev⟩
    · exact ⟨_, ev⟩
    · exact ⟨_, ev⟩
  rw [← hf1] at hM hKP
  show V K c s P A f [(0, .ref b), (1, .ref (A (w + 15010))), (2, .ref (A (w + 15100))), (3, .int (nI i))] 440 [.int r]
  refine g_aload_n (pc := 440) C dL_law_440 2 rfl ?_
  refine g_aload_n (pc := 441) C dL_law_441 0 rfl ?_
  refine g_iload_n (pc := 442) C dL_law_442 3 rfl ?_
  refine g_iconst (pc := 443) C dL_law_443 (v := nI 1) rfl ?_
  refine g_iadd (pc := 444) C dL_law_444 (z := nI (i + 1)) (nI_add _ _) ?_
  refine g_sld (pc := 445) C X (iv := i + 1) (nI_clamp (by omega)) (nI_in0 (by omega) (by omega)) dL_law_445 ?_
  refine g_aload_n (pc := 446) C dL_law_446 0 rfl ?_
  refine g_iload_n (pc := 447) C dL_law_447 3 rfl ?_
  refine g_iconst (pc := 448) C dL_law_448 (v := nI 2) rfl ?_
  refine g_iadd (pc := 449) C dL_law_449 (z := nI (i + 2)) (nI_add _ _) ?_
  refine g_sld (pc := 450) C X (iv := i + 2) (nI_clamp (by omega)) (nI_in0 (by omega) (by omega)) dL_law_450 ?_
  refine g_aload_n (pc := 451) C dL_law_451 0 rfl ?_
  refine g_iload_n (pc := 452) C dL_law_452 3 rfl ?_
  refine g_iconst (pc := 453) C dL_law_453 (v := nI 3) rfl ?_
  refine g_iadd (pc := 454) C dL_law_454 (z := nI (i + 3)) (nI_add _ _) ?_
  refine g_sld (pc := 455) C X (iv := i + 3) (nI_clamp (by omega)) (nI_in0 (by omega) (by omega)) dL_law_455 ?_
  refine g_callV (pc := 456) C (As := [.int (xs (i + 1)), .int (xs (i + 2)), .int (xs (i + 3))]) (rest := [.int r]) (b := w + 15100) (pm_hi (w := w) (c_X11_view A _ _ (w + 15100) (xs (i + 1)) (xs (i + 2)) (xs (i + 3)) hS hM)) (hi_at (MM.ob hM).choose_spec (by omega)) rfl rfl Y_X11_view u_1074 N_X11_view ⟨by decide, by decide⟩ hcs (Nat.le_of_ble_eq_true rfl) rfl dL_law_456 ?_
  rintro v _ _ f2 ⟨rfl, rfl, h2, hf2⟩
  obtain ⟨r2, rfl⟩ : ∃ r, v = some (.int r) := by
    rcases h2 with ⟨(⟨_, ev⟩ | ⟨_, _, _, (⟨_, _, ev⟩ | ⟨_, ev⟩ | ⟨_, ev⟩)⟩), _⟩
    · exact ⟨_, ev⟩
    · exact ⟨_, ev⟩
    · exact ⟨_, ev⟩
    · exact ⟨_, ev⟩
  show V K c s P A f2 [(0, .ref b), (1, .ref (A (w + 15010))), (2, .ref (A (w + 15100))), (3, .int (nI i))] 459 [.int r2, .int r]
  have E := a_view hB hS hk2 hX hM hKP h1 h2
  exact g_icmp_eq (pc := 459) C dL_law_459 (tgt := 803) (by decide) (fun _ => kk f2 (by rw [hf2]; exact E.2)) (fun q => absurd E.1 q)
set_option maxRecDepth 20000 in
set_option maxHeartbeats 4000000 in
theorem l_how {K : vT} {P : List Nat} {A : Nat → Nat} {g : pM} {b L w B i c s : Nat} {xs : Nat → Int32} (C : vC K cL_law RL 4 room_1) (X : LX K b L xs) (hi4 : i + 4 ≤ L) (hL : L ≤ 2048) (hB : B + 2001 < 2 ^ 30) (hN : NX A w (lo w g) (hi w g) B) (hcs : c ≤ 628067 ∧ s ≤ 7218046) (kk : ∀ g' : pM, NX A w (lo w g') (hi w g') (B + 2000) → V K c s P A g' [(0, .ref b), (1, .ref (A (w + 15010))), (2, .ref (A (w + 15100))), (3, .int (nI i))] 803 []) : V K c s P A g [(0, .ref b), (1, .ref (A (w + 15010))), (2, .ref (A (w + 15100))), (3, .int (nI i))] 464 [] := by
  obtain ⟨cs, σ, ks, hX, hM, hKP, hS, hk2⟩ := hN
  refine g_aload_n (pc := 464) C dL_law_464 1 rfl ?_
  refine g_aload_n (pc := 465) C dL_law_465 0 rfl ?_
  refine g_iload_n (pc := 466) C dL_law_466 3 rfl ?_
  refine g_iconst (pc := 467) C dL_law_467 (v := nI 1) rfl ?_
  refine g_iadd (pc := 468) C dL_law_468 (z := nI (i + 1)) (nI_add _ _) ?_
  refine g_sld (pc := 469) C X (iv := i + 1) (nI_clamp (by omega)) (nI_in0 (by omega) (by omega)) dL_law_469 ?_
  refine g_aload_n (pc := 470) C dL_law_470 0 rfl ?_
  refine g_iload_n (pc := 471) C dL_law_471 3 rfl ?_
  refine g_iconst (pc := 472) C dL_law_472 (v := nI 2) rfl ?_
  refine g_iadd (pc := 473) C dL_law_473 (z := nI (i + 2)) (nI_add _ _) ?_
  refine g_sld (pc := 474) C X (iv := i + 2) (nI_clamp (by omega)) (nI_in0 (by omega) (by omega)) dL_law_474 ?_
  refine g_callV (pc := 475) C (As := [.int (xs (i + 1)), .int (xs (i + 2))]) (rest := []) (b := w + 15010) (pm_lo (w := w) (c_X10_how A _ _ w (xs (i + 1)) (xs (i + 2)) (fun i hi => hS.dw hi) hX.1 hX.wd)) (lo_at hX.1 (by omega)) rfl rfl Y_X10_how u_705 N_X10_how ⟨by decide, by decide⟩ hcs (Nat.le_of_ble_eq_true rfl) rfl dL_law_475 ?_
  rintro v _ _ f ⟨rfl, rfl, h1, hf1⟩
  obtain ⟨r, rfl⟩ : ∃ r, v = some (.int r) := by
    rcases h1 with ⟨(⟨_, ev⟩ | ⟨_, _, _, _, _, _, ev⟩), _⟩
    · exact ⟨_, ev⟩
    · exact ⟨_, ev⟩
  rw [← hf1] at hM hKP
  show V K c s P A f [(0, .ref b), (1, .ref (A (w + 15010))), (2, .ref (A (w + 15100))), (3, .int (nI i))] 478 [.int r]
  refine g_aload_n (pc := 478) C dL_law_478 2 rfl ?_
  refine g_aload_n (pc := 479) C dL_law_479 0 rfl ?_
  refine g_iload_n (pc := 480) C dL_law_480 3 rfl ?_
  refine g_iconst (pc := 481) C dL_law_481 (v := nI 1) rfl ?_
  refine g_iadd (pc := 482) C dL_law_482 (z := nI (i + 1)) (nI_add _ _) ?_
  refine g_sld (pc := 483) C X (iv := i + 1) (nI_clamp (by omega)) (nI_in0 (by omega) (by omega)) dL_law_483 ?_
  refine g_aload_n (pc := 484) C dL_law_484 0 rfl ?_
  refine g_iload_n (pc := 485) C dL_law_485 3 rfl ?_
  refine g_iconst (pc := 486) C dL_law_486 (v := nI 2) rfl ?_
  refine g_iadd (pc := 487) C dL_law_487 (z := nI (i + 2)) (nI_add _ _) ?_
  refine g_sld (pc := 488) C X (iv := i + 2) (nI_clamp (by omega)) (nI_in0 (by omega) (by omega)) dL_law_488 ?_
  refine g_callV (pc := 489) C (As := [.int (xs (i + 1)), .int (xs (i + 2))]) (rest := [.int r]) (b := w + 15100) (pm_hi (w := w) (c_X11_how A _ _ (w + 15100) (xs (i + 1)) (xs (i + 2)) hS hM)) (hi_at (MM.ob hM).choose_spec (by omega)) rfl rfl Y_X11_how u_1078 N_X11_how ⟨by decide, by decide⟩ hcs (Nat.le_of_ble_eq_true rfl) rfl dL_law_489 ?_
  rintro v _ _ f2 ⟨rfl, rfl, h2, hf2⟩
  obtain ⟨r2, rfl⟩ : ∃ r, v = some (.int r) := by
    rcases h2 with ⟨(⟨_, ev⟩ | ⟨_, _, _, _, _, _, ev⟩), _⟩
    · exact ⟨_, ev⟩
    · exact ⟨_, ev⟩
  show V K c s P A f2 [(0, .ref b), (1, .ref (A (w + 15010))), (2, .ref (A (w + 15100))), (3, .int (nI i))] 492 [.int r2, .int r]
  have E := a_how hB hS hk2 hX hM hKP h1 h2
  exact g_icmp_eq (pc := 492) C dL_law_492 (tgt := 803) (by decide) (fun _ => kk f2 (by rw [hf2]; exact E.2)) (fun q => absurd E.1 q)
set_option maxRecDepth 20000 in
set_option maxHeartbeats 4000000 in
theorem l_heard {K : vT} {P : List Nat} {A : Nat → Nat} {g : pM} {b L w B i c s : Nat} {xs : Nat → Int32} (C : vC K cL_law RL 4 room_1) (X : LX K b L xs) (hi4 : i + 4 ≤ L) (hL : L ≤ 2048) (hB : B + 2001 < 2 ^ 30) (hN : NX A w (lo w g) (hi w g) B) (hcs : c ≤ 628067 ∧ s ≤ 7218046) (kk : ∀ g' : pM, NX A w (lo w g') (hi w g') (B + 2000) → V K c s P A g' [(0, .ref b), (1, .ref (A (w + 15010))), (2, .ref (A (w + 15100))), (3, .int (nI i))] 803 []) : V K c s P A g [(0, .ref b), (1, .ref (A (w + 15010))), (2, .ref (A (w + 15100))), (3, .int (nI i))] 497 [] := by
  obtain ⟨cs, σ, ks, hX, hM, hKP, hS, hk2⟩ := hN
  refine g_aload_n (pc := 497) C dL_law_497 1 rfl ?_
  refine g_aload_n (pc := 498) C dL_law_498 0 rfl ?_
  refine g_iload_n (pc := 499) C dL_law_499 3 rfl ?_
  refine g_iconst (pc := 500) C dL_law_500 (v := nI 1) rfl ?_
  refine g_iadd (pc := 501) C dL_law_501 (z := nI (i + 1)) (nI_add _ _) ?_
  refine g_sld (pc := 502) C X (iv := i + 1) (nI_clamp (by omega)) (nI_in0 (by omega) (by omega)) dL_law_502 ?_
  refine g_aload_n (pc := 503) C dL_law_503 0 rfl ?_
  refine g_iload_n (pc := 504) C dL_law_504 3 rfl ?_
  refine g_iconst (pc := 505) C dL_law_505 (v := nI 2) rfl ?_
  refine g_iadd (pc := 506) C dL_law_506 (z := nI (i + 2)) (nI_add _ _) ?_
  refine g_sld (pc := 507) C X (iv := i + 2) (nI_clamp (by omega)) (nI_in0 (by omega) (by omega)) dL_law_507 ?_
  refine g_callV (pc := 508) C (As := [.int (xs (i + 1)), .int (xs (i + 2))]) (rest := []) (b := w + 15010) (pm_lo (w := w) (c_X10_heard A _ _ w (xs (i + 1)) (xs (i + 2)) hX.1 hX.wd)) (lo_at hX.1 (by omega)) rfl rfl Y_X10_heard u_711 N_X10_heard ⟨by decide, by decide⟩ hcs (Nat.le_of_ble_eq_true rfl) rfl dL_law_508 ?_
  rintro v _ _ f ⟨rfl, rfl, h1, hf1⟩
  obtain ⟨r, rfl⟩ : ∃ r, v = some (.int r) := by
    rcases h1 with ⟨ev, _⟩
    · exact ⟨_, ev⟩
  rw [← hf1] at hM hKP
  show V K c s P A f [(0, .ref b), (1, .ref (A (w + 15010))), (2, .ref (A (w + 15100))), (3, .int (nI i))] 511 [.int r]
  refine g_aload_n (pc := 511) C dL_law_511 2 rfl ?_
  refine g_aload_n (pc := 512) C dL_law_512 0 rfl ?_
  refine g_iload_n (pc := 513) C dL_law_513 3 rfl ?_
  refine g_iconst (pc := 514) C dL_law_514 (v := nI 1) rfl ?_
  refine g_iadd (pc := 515) C dL_law_515 (z := nI (i + 1)) (nI_add _ _) ?_
  refine g_sld (pc := 516) C X (iv := i + 1) (nI_clamp (by omega)) (nI_in0 (by omega) (by omega)) dL_law_516 ?_
  refine g_aload_n (pc := 517) C dL_law_517 0 rfl ?_
  refine g_iload_n (pc := 518) C dL_law_518 3 rfl ?_
  refine g_iconst (pc := 519) C dL_law_519 (v := nI 2) rfl ?_
  refine g_iadd (pc := 520) C dL_law_520 (z := nI (i + 2)) (nI_add _ _) ?_
  refine g_sld (pc := 521) C X (iv := i + 2) (nI_clamp (by omega)) (nI_in0 (by omega) (by omega)) dL_law_521 ?_
  refine g_callV (pc := 522) C (As := [.int (xs (i + 1)), .int (xs (i + 2))]) (rest := [.int r]) (b := w + 15100) (pm_hi (w := w) (c_X11_heard A _ _ (w + 15100) (xs (i + 1)) (xs (i + 2)) hS hM)) (hi_at (MM.ob hM).choose_spec (by omega)) rfl rfl Y_X11_heard u_1082 N_X11_heard ⟨by decide, by decide⟩ hcs (Nat.le_of_ble_eq_true rfl) rfl dL_law_522 ?_
  rintro v _ _ f2 ⟨rfl, rfl, h2, hf2⟩
  obtain ⟨r2, rfl⟩ : ∃ r, v = some (.int r) := by
    rcases h2 with ⟨ev, _⟩
    · exact ⟨_, ev⟩
  show V K c s P A f2 [(0, .ref b), (1, .ref (A (w + 15010))), (2, .ref (A (w + 15100))), (3, .int (nI i))] 525 [.int r2, .int r]
  have E := a_heard hB hS hk2 hX hM hKP h1 h2
  exact g_icmp_eq (pc := 525) C dL_law_525 (tgt := 803) (by decide) (fun _ => kk f2 (by rw [hf2]; exact E.2)) (fun q => absurd E.1 q)
set_option maxRecDepth 20000 in
set_option maxHeartbeats 4000000 in
theorem l_missed {K : vT} {P : List Nat} {A : Nat → Nat} {g : pM} {b L w B i c s : Nat} {xs : Nat → Int32} (C : vC K cL_law RL 4 room_1) (X : LX K b L xs) (hi4 : i + 4 ≤ L) (hL : L ≤ 2048) (hB : B + 2001 < 2 ^ 30) (hN : NX A w (lo w g) (hi w g) B) (hcs : c ≤ 628067 ∧ s ≤ 7218046) (kk : ∀ g' : pM, NX A w (lo w g') (hi w g') (B + 2000) → V K c s P A g' [(0, .ref b), (1, .ref (A (w + 15010))), (2, .ref (A (w + 15100))), (3, .int (nI i))] 803 []) : V K c s P A g [(0, .ref b), (1, .ref (A (w + 15010))), (2, .ref (A (w + 15100))), (3, .int (nI i))] 530 [] := by
  obtain ⟨cs, σ, ks, hX, hM, hKP, hS, hk2⟩ := hN
  refine g_aload_n (pc := 530) C dL_law_530 1 rfl ?_
  refine g_aload_n (pc := 531) C dL_law_531 0 rfl ?_
  refine g_iload_n (pc := 532) C dL_law_532 3 rfl ?_
  refine g_iconst (pc := 533) C dL_law_533 (v := nI 1) rfl ?_
  refine g_iadd (pc := 534) C dL_law_534 (z := nI (i + 1)) (nI_add _ _) ?_
  refine g_sld (pc := 535) C X (iv := i + 1) (nI_clamp (by omega)) (nI_in0 (by omega) (by omega)) dL_law_535 ?_
  refine g_aload_n (pc := 536) C dL_law_536 0 rfl ?_
  refine g_iload_n (pc := 537) C dL_law_537 3 rfl ?_
  refine g_iconst (pc := 538) C dL_law_538 (v := nI 2) rfl ?_
  refine g_iadd (pc := 539) C dL_law_539 (z := nI (i + 2)) (nI_add _ _) ?_
  refine g_sld (pc := 540) C X (iv := i + 2) (nI_clamp (by omega)) (nI_in0 (by omega) (by omega)) dL_law_540 ?_
  refine g_callV (pc := 541) C (As := [.int (xs (i + 1)), .int (xs (i + 2))]) (rest := []) (b := w + 15010) (pm_lo (w := w) (c_X10_missed A _ _ w (xs (i + 1)) (xs (i + 2)) hX.1 hX.wd)) (lo_at hX.1 (by omega)) rfl rfl Y_X10_missed u_720 N_X10_missed ⟨by decide, by decide⟩ hcs (Nat.le_of_ble_eq_true rfl) rfl dL_law_541 ?_
  rintro v _ _ f ⟨rfl, rfl, h1, hf1⟩
  obtain ⟨r, rfl⟩ : ∃ r, v = some (.int r) := by
    rcases h1 with ⟨(⟨_, ev⟩ | ⟨_, _, _, _, _, _, ev⟩), _⟩
    · exact ⟨_, ev⟩
    · exact ⟨_, ev⟩
  rw [← hf1] at hM hKP
  show V K c s P A f [(0, .ref b), (1, .ref (A (w + 15010))), (2, .ref (A (w + 15100))), (3, .int (nI i))] 544 [.int r]
  refine g_aload_n (pc := 544) C dL_law_544 2 rfl ?_
  refine g_aload_n (pc := 545) C dL_law_545 0 rfl ?_
  refine g_iload_n (pc := 546) C dL_law_546 3 rfl ?_
  refine g_iconst (pc := 547) C dL_law_547 (v := nI 1) rfl ?_
  refine g_iadd (pc := 548) C dL_law_548 (z := nI (i + 1)) (nI_add _ _) ?_
  refine g_sld (pc := 549) C X (iv := i + 1) (nI_clamp (by omega)) (nI_in0 (by omega) (by omega)) dL_law_549 ?_
  refine g_aload_n (pc := 550) C dL_law_550 0 rfl ?_
  refine g_iload_n (pc := 551) C dL_law_551 3 rfl ?_
  refine g_iconst (pc := 552) C dL_law_552 (v := nI 2) rfl ?_
  refine g_iadd (pc := 553) C dL_law_553 (z := nI (i + 2)) (nI_add _ _) ?_
  refine g_sld (pc := 554) C X (iv := i + 2) (nI_clamp (by omega)) (nI_in0 (by omega) (by omega)) dL_law_554 ?_
  refine g_callV (pc := 555) C (As := [.int (xs (i + 1)), .int (xs (i + 2))]) (rest := [.int r]) (b := w + 15100) (pm_hi (w := w) (c_X11_missed A _ _ (w + 15100) (xs (i + 1)) (xs (i + 2)) hS hM)) (hi_at (MM.ob hM).choose_spec (by omega)) rfl rfl Y_X11_missed u_1090 N_X11_missed ⟨by decide, by decide⟩ hcs (Nat.le_of_ble_eq_true rfl) rfl dL_law_555 ?_
  rintro v _ _ f2 ⟨rfl, rfl, h2, hf2⟩
  obtain ⟨r2, rfl⟩ : ∃ r, v = some (.int r) := by
    rcases h2 with ⟨(⟨_, ev⟩ | ⟨_, _, _, _, _, _, ev⟩), _⟩
    · exact ⟨_, ev⟩
    · exact ⟨_, ev⟩
  show V K c s P A f2 [(0, .ref b), (1, .ref (A (w + 15010))), (2, .ref (A (w + 15100))), (3, .int (nI i))] 558 [.int r2, .int r]
  have E := a_missed hB hS hk2 hX hM hKP h1 h2
  exact g_icmp_eq (pc := 558) C dL_law_558 (tgt := 803) (by decide) (fun _ => kk f2 (by rw [hf2]; exact E.2)) (fun q => absurd E.1 q)
set_option maxRecDepth 20000 in
set_option maxHeartbeats 4000000 in
theorem l_about {K : vT} {P : List Nat} {A : Nat → Nat} {g : pM} {b L w B i c s : Nat} {xs : Nat → Int32} (C : vC K cL_law RL 4 room_1) (X : LX K b L xs) (hi4 : i + 4 ≤ L) (hL : L ≤ 2048) (hB : B + 2001 < 2 ^ 30) (hN : NX A w (lo w g) (hi w g) B) (hcs : c ≤ 628067 ∧ s ≤ 7218046) (kk : ∀ g' : pM, NX A w (lo w g') (hi w g') (B + 2000) → V K c s P A g' [(0, .ref b), (1, .ref (A (w + 15010))), (2, .ref (A (w + 15100))), (3, .int (nI i))] 803 []) : V K c s P A g [(0, .ref b), (1, .ref (A (w + 15010))), (2, .ref (A (w + 15100))), (3, .int (nI i))] 563 [] := by
  obtain ⟨cs, σ, ks, hX, hM, hKP, hS, hk2⟩ := hN
  refine g_aload_n (pc := 563) C dL_law_563 1 rfl ?_
  refine g_aload_n (pc := 564) C dL_law_564 0 rfl ?_
  refine g_iload_n (pc := 565) C dL_law_565 3 rfl ?_
  refine g_iconst (pc := 566) C dL_law_566 (v := nI 1) rfl ?_
  refine g_iadd (pc := 567) C dL_law_567 (z := nI (i + 1)) (nI_add _ _) ?_
  refine g_sld (pc := 568) C X (iv := i + 1) (nI_clamp (by omega)) (nI_in0 (by omega) (by omega)) dL_law_568 ?_
  refine g_aload_n (pc := 569) C dL_law_569 0 rfl ?_
  refine g_iload_n (pc := 570) C dL_law_570 3 rfl ?_
  refine g_iconst (pc := 571) C dL_law_571 (v := nI 2) rfl ?_
  refine g_iadd (pc := 572) C dL_law_572 (z := nI (i + 2)) (nI_add _ _) ?_
  refine g_sld (pc := 573) C X (iv := i + 2) (nI_clamp (by omega)) (nI_in0 (by omega) (by omega)) dL_law_573 ?_
  refine g_callV (pc := 574) C (As := [.int (xs (i + 1)), .int (xs (i + 2))]) (rest := []) (b := w + 15010) (pm_lo (w := w) (c_X10_about A _ _ w (xs (i + 1)) (xs (i + 2)) (fun i hi => hS.dw hi) hX.1 hX.wd)) (lo_at hX.1 (by omega)) rfl rfl Y_X10_about u_725 N_X10_about ⟨by decide, by decide⟩ hcs (Nat.le_of_ble_eq_true rfl) rfl dL_law_574 ?_
  rintro v _ _ f ⟨rfl, rfl, h1, hf1⟩
  obtain ⟨r, rfl⟩ : ∃ r, v = some (.int r) := by
    rcases h1 with ⟨(⟨_, ev⟩ | ⟨_, _, _, (⟨_, ev⟩ | ⟨_, _, _, ev⟩)⟩), _⟩
    · exact ⟨_, ev⟩
    · exact ⟨_, ev⟩
    · exact ⟨_, ev⟩
  rw [← hf1] at hM hKP
  show V K c s P A f [(0, .ref b), (1, .ref (A (w + 15010))), (2, .ref (A (w + 15100))), (3, .int (nI i))] 577 [.int r]
  refine g_aload_n (pc := 577) C dL_law_577 2 rfl ?_
  refine g_aload_n (pc := 578) C dL_law_578 0 rfl ?_
  refine g_iload_n (pc := 579) C dL_law_579 3 rfl ?_
  refine g_iconst (pc := 580) C dL_law_580 (v := nI 1) rfl ?_
  refine g_iadd (pc := 581) C dL_law_581 (z := nI (i + 1)) (nI_add _ _) ?_
  refine g_sld (pc := 582) C X (iv := i + 1) (nI_clamp (by omega)) (nI_in0 (by omega) (by omega)) dL_law_582 ?_
  refine g_aload_n (pc := 583) C dL_law_583 0 rfl ?_
  refine g_iload_n (pc := 584) C dL_law_584 3 rfl ?_
  refine g_iconst (pc := 585) C dL_law_585 (v := nI 2) rfl ?_
  refine g_iadd (pc := 586) C dL_law_586 (z := nI (i + 2)) (nI_add _ _) ?_
  refine g_sld (pc := 587) C X (iv := i + 2) (nI_clamp (by omega)) (nI_in0 (by omega) (by omega)) dL_law_587 ?_
  refine g_callV (pc := 588) C (As := [.int (xs (i + 1)), .int (xs (i + 2))]) (rest := [.int r]) (b := w + 15100) (pm_hi (w := w) (c_X11_about A _ _ (w + 15100) (xs (i + 1)) (xs (i + 2)) hS hM)) (hi_at (MM.ob hM).choose_spec (by omega)) rfl rfl Y_X11_about u_1094 N_X11_about ⟨by decide, by decide⟩ hcs (Nat.le_of_ble_eq_true rfl) rfl dL_law_588 ?_
  rintro v _ _ f2 ⟨rfl, rfl, h2, hf2⟩
  obtain ⟨r2, rfl⟩ : ∃ r, v = some (.int r) := by
    rcases h2 with ⟨(⟨_, ev⟩ | ⟨_, _, _, (⟨_, ev⟩ | ⟨_, _, _, ev⟩)⟩), _⟩
    · exact ⟨_, ev⟩
    · exact ⟨_, ev⟩
    · exact ⟨_, ev⟩
  show V K c s P A f2 [(0, .ref b), (1, .ref (A (w + 15010))), (2, .ref (A (w + 15100))), (3, .int (nI i))] 591 [.int r2, .int r]
  have E := a_about hB hS hk2 hX hM hKP h1 h2
  exact g_icmp_eq (pc := 591) C dL_law_591 (tgt := 803) (by decide) (fun _ => kk f2 (by rw [hf2]; exact E.2)) (fun q => absurd E.1 q)
set_option maxRecDepth 20000 in
set_option maxHeartbeats 4000000 in
theorem l_letter {K : vT} {P : List Nat} {A : Nat → Nat} {g : pM} {b L w B i c s : Nat} {xs : Nat → Int32} (C : vC K cL_law RL 4 room_1) (X : LX K b L xs) (hi4 : i + 4 ≤ L) (hL : L ≤ 2048) (hB : B + 2001 < 2 ^ 30) (hN : NX A w (lo w g) (hi w g) B) (hcs : c ≤ 628067 ∧ s ≤ 7218046) (kk : ∀ g' : pM, NX A w (lo w g') (hi w g') (B + 2000) → V K c s P A g' [(0, .ref b), (1, .ref (A (w + 15010))), (2, .ref (A (w + 15100))), (3, .int (nI i))] 803 []) : V K c s P A g [(0, .ref b), (1, .ref (A (w + 15010))), (2, .ref (A (w + 15100))), (3, .int (nI i))] 596 [] := by
  obtain ⟨cs, σ, ks, hX, hM, hKP, hS, hk2⟩ := hN
  refine g_aload_n (pc := 596) C dL_law_596 1 rfl ?_
  refine g_aload_n (pc := 597) C dL_law_597 0 rfl ?_
  refine g_iload_n (pc := 598) C dL_law_598 3 rfl ?_
  refine g_iconst (pc := 599) C dL_law_599 (v := nI 1) rfl ?_
  refine g_iadd (pc := 600) C dL_law_600 (z := nI (i + 1)) (nI_add _ _) ?_
  refine g_sld (pc := 601) C X (iv := i + 1) (nI_clamp (by omega)) (nI_in0 (by omega) (by omega)) dL_law_601 ?_
  refine g_aload_n (pc := 602) C dL_law_602 0 rfl ?_
  refine g_iload_n (pc := 603) C dL_law_603 3 rfl ?_
  refine g_iconst (pc := 604) C dL_law_604 (v := nI 2) rfl ?_
  refine g_iadd (pc := 605) C dL_law_605 (z := nI (i + 2)) (nI_add _ _) ?_
  refine g_sld (pc := 606) C X (iv := i + 2) (nI_clamp (by omega)) (nI_in0 (by omega) (by omega)) dL_law_606 ?_
  refine g_callV (pc := 607) C (As := [.int (xs (i + 1)), .int (xs (i + 2))]) (rest := []) (b := w + 15010) (pm_lo (w := w) (c_X10_letter A _ _ w (xs (i + 1)) (xs (i + 2)) hX.1 hX.wd)) (lo_at hX.1 (by omega)) rfl rfl Y_X10_letter u_738 N_X10_letter ⟨by decide, by decide⟩ hcs (Nat.le_of_ble_eq_true rfl) rfl dL_law_607 ?_
  rintro v _ _ f ⟨rfl, rfl, h1, hf1⟩
  obtain ⟨r, rfl⟩ : ∃ r, v = some (.int r) := by
    rcases h1 with ⟨(⟨_, ev⟩ | ⟨_, _, _, _, (⟨_, (⟨_, ev⟩ | ⟨_, ev⟩)⟩ | ⟨_, _, _, ev⟩)⟩), _⟩
    · exact ⟨_, ev⟩
    · exact ⟨_, ev⟩
    · exact ⟨_, ev⟩
    · exact ⟨_, ev⟩
  rw [← hf1] at hM hKP
  show V K c s P A f [(0, .ref b), (1, .ref (A (w + 15010))), (2, .ref (A (w + 15100))), (3, .int (nI i))] 610 [.int r]
  refine g_aload_n (pc := 610) C dL_law_610 2 rfl ?_
  refine g_aload_n (pc := 611) C dL_law_611 0 rfl ?_
  refine g_iload_n (pc := 612) C dL_law_612 3 rfl ?_
  refine g_iconst (pc := 613) C dL_law_613 (v := nI 1) rfl ?_
  refine g_iadd (pc := 614) C dL_law_614 (z := nI (i + 1)) (nI_add _ _) ?_
  refine g_sld (pc := 615) C X (iv := i + 1) (nI_clamp (by omega)) (nI_in0 (by omega) (by omega)) dL_law_615 ?_
  refine g_aload_n (pc := 616) C dL_law_616 0 rfl ?_
  refine g_iload_n (pc := 617) C dL_law_617 3 rfl ?_
  refine g_iconst (pc := 618) C dL_law_618 (v := nI 2) rfl ?_
  refine g_iadd (pc := 619) C dL_law_619 (z := nI (i + 2)) (nI_add _ _) ?_
  refine g_sld (pc := 620) C X (iv := i + 2) (nI_clamp (by omega)) (nI_in0 (by omega) (by omega)) dL_law_620 ?_
  refine g_callV (pc := 621) C (As := [.int (xs (i + 1)), .int (xs (i + 2))]) (rest := [.int r]) (b := w + 15100) (pm_hi (w := w) (c_X11_letter A _ _ (w + 15100) (xs (i + 1)) (xs (i + 2)) hS hM)) (hi_at (MM.ob hM).choose_spec (by omega)) rfl rfl Y_X11_letter u_1098 N_X11_letter ⟨by decide, by decide⟩ hcs (Nat.le_of_ble_eq_true rfl) rfl dL_law_621 ?_
  rintro v _ _ f2 ⟨rfl, rfl, h2, hf2⟩
  obtain ⟨r2, rfl⟩ : ∃ r, v = some (.int r) := by
    rcases h2 with ⟨(⟨_, ev⟩ | ⟨_, _, _, _, (⟨_, (⟨_, ev⟩ | ⟨_, ev⟩)⟩ | ⟨_, _, _, ev⟩)⟩), _⟩
    · exact ⟨_, ev⟩
    · exact ⟨_, ev⟩
    · exact ⟨_, ev⟩
    · exact ⟨_, ev⟩
  show V K c s P A f2 [(0, .ref b), (1, .ref (A (w + 15010))), (2, .ref (A (w + 15100))), (3, .int (nI i))] 624 [.int r2, .int r]
  have E := a_letter hB hS hk2 hX hM hKP h1 h2
  exact g_icmp_eq (pc := 624) C dL_law_624 (tgt := 803) (by decide) (fun _ => kk f2 (by rw [hf2]; exact E.2)) (fun q => absurd E.1 q)
set_option maxRecDepth 20000 in
set_option maxHeartbeats 4000000 in
theorem l_even {K : vT} {P : List Nat} {A : Nat → Nat} {g : pM} {b L w B i c s : Nat} {xs : Nat → Int32} (C : vC K cL_law RL 4 room_1) (X : LX K b L xs) (hi4 : i + 4 ≤ L) (hL : L ≤ 2048) (hB : B + 2001 < 2 ^ 30) (hN : NX A w (lo w g) (hi w g) B) (hcs : c ≤ 628067 ∧ s ≤ 7218046) (kk : ∀ g' : pM, NX A w (lo w g') (hi w g') (B + 2000) → V K c s P A g' [(0, .ref b), (1, .ref (A (w + 15010))), (2, .ref (A (w + 15100))), (3, .int (nI i))] 803 []) : V K c s P A g [(0, .ref b), (1, .ref (A (w + 15010))), (2, .ref (A (w + 15100))), (3, .int (nI i))] 629 [] := by
  obtain ⟨cs, σ, ks, hX, hM, hKP, hS, hk2⟩ := hN
  refine g_aload_n (pc := 629) C dL_law_629 1 rfl ?_
  refine g_callV (pc := 630) C (As := []) (rest := []) (b := w + 15010) (pm_lo (w := w) (c_X10_even A _ _ w (fun i hi q hq => (hS.nw hi).2.1 q hq) hX.1 hX.wd)) (lo_at hX.1 (by omega)) rfl rfl Y_X10_even u_743 N_X10_even ⟨by decide, by decide⟩ hcs (Nat.le_of_ble_eq_true rfl) rfl dL_law_630 ?_
  rintro v _ _ f ⟨rfl, rfl, h1, hf1⟩
  obtain ⟨r, rfl⟩ : ∃ r, v = some (.int r) := by
    rcases h1 with ⟨ev, _⟩
    · exact ⟨_, ev⟩
  rw [← hf1] at hM hKP
  show V K c s P A f [(0, .ref b), (1, .ref (A (w + 15010))), (2, .ref (A (w + 15100))), (3, .int (nI i))] 633 [.int r]
  refine g_aload_n (pc := 633) C dL_law_633 2 rfl ?_
  refine g_callV (pc := 634) C (As := []) (rest := [.int r]) (b := w + 15100) (pm_hi (w := w) (c_X11_even A _ _ (w + 15100) hS hM)) (hi_at (MM.ob hM).choose_spec (by omega)) rfl rfl Y_X11_even u_1102 N_X11_even ⟨by decide, by decide⟩ hcs (Nat.le_of_ble_eq_true rfl) rfl dL_law_634 ?_
  rintro v _ _ f2 ⟨rfl, rfl, h2, hf2⟩
  obtain ⟨r2, rfl⟩ : ∃ r, v = some (.int r) := by
    rcases h2 with ⟨ev, _⟩
    · exact ⟨_, ev⟩
  show V K c s P A f2 [(0, .ref b), (1, .ref (A (w + 15010))), (2, .ref (A (w + 15100))), (3, .int (nI i))] 637 [.int r2, .int r]
  have E := a_even hB hS hk2 hX hM hKP h1 h2
  exact g_icmp_eq (pc := 637) C dL_law_637 (tgt := 803) (by decide) (fun _ => kk f2 (by rw [hf2]; exact E.2)) (fun q => absurd E.1 q)
set_option maxRecDepth 20000 in
set_option maxHeartbeats 4000000 in
theorem l_reach {K : vT} {P : List Nat} {A : Nat → Nat} {g : pM} {b L w B i c s : Nat} {xs : Nat → Int32} (C : vC K cL_law RL 4 room_1) (X : LX K b L xs) (hi4 : i + 4 ≤ L) (hL : L ≤ 2048) (hB : B + 2001 < 2 ^ 30) (hN : NX A w (lo w g) (hi w g) B) (hcs : c ≤ 628067 ∧ s ≤ 7218046) (kk : ∀ g' : pM, NX A w (lo w g') (hi w g') (B + 2000) → V K c s P A g' [(0, .ref b), (1, .ref (A (w + 15010))), (2, .ref (A (w + 15100))), (3, .int (nI i))] 803 []) : V K c s P A g [(0, .ref b), (1, .ref (A (w + 15010))), (2, .ref (A (w + 15100))), (3, .int (nI i))] 642 [] := by
  obtain ⟨cs, σ, ks, hX, hM, hKP, hS, hk2⟩ := hN
  refine g_aload_n (pc := 642) C dL_law_642 1 rfl ?_
  refine g_aload_n (pc := 643) C dL_law_643 0 rfl ?_
  refine g_iload_n (pc := 644) C dL_law_644 3 rfl ?_
  refine g_iconst (pc := 645) C dL_law_645 (v := nI 1) rfl ?_
  refine g_iadd (pc := 646) C dL_law_646 (z := nI (i + 1)) (nI_add _ _) ?_
  refine g_sld (pc := 647) C X (iv := i + 1) (nI_clamp (by omega)) (nI_in0 (by omega) (by omega)) dL_law_647 ?_
  refine g_callV (pc := 648) C (As := [.int (xs (i + 1))]) (rest := []) (b := w + 15010) (pm_lo (w := w) (c_X10_reach A _ _ w (xs (i + 1)) (fun i hi q hq => (hS.nw hi).2.1 q hq) hX.1 hX.wd)) (lo_at hX.1 (by omega)) rfl rfl Y_X10_reach u_756 N_X10_reach ⟨by decide, by decide⟩ hcs (Nat.le_of_ble_eq_true rfl) rfl dL_law_648 ?_
  rintro v _ _ f ⟨rfl, rfl, h1, hf1⟩
  obtain ⟨r, rfl⟩ : ∃ r, v = some (.int r) := by
    rcases h1 with ⟨(⟨_, ev⟩ | ⟨_, _, _, _, ev⟩), _⟩
    · exact ⟨_, ev⟩
    · exact ⟨_, ev⟩
  rw [← hf1] at hM hKP
  show V K c s P A f [(0, .ref b), (1, .ref (A (w + 15010))), (2, .ref (A (w + 15100))), (3, .int (nI i))] 651 [.int r]
  refine g_aload_n (pc := 651) C dL_law_651 2 rfl ?_
  refine g_aload_n (pc := 652) C dL_law_652 0 rfl ?_
  refine g_iload_n (pc := 653) C dL_law_653 3 rfl ?_
  refine g_iconst (pc := 654) C dL_law_654 (v := nI 1) rfl ?_
  refine g_iadd (pc := 655) C dL_law_655 (z := nI (i + 1)) (nI_add _ _) ?_
  refine g_sld (pc := 656) C X (iv := i + 1) (nI_clamp (by omega)) (nI_in0 (by omega) (by omega)) dL_law_656 ?_
  refine g_callV (pc := 657) C (As := [.int (xs (i + 1))]) (rest := [.int r]) (b := w + 15100) (pm_hi (w := w) (c_X11_reach A _ _ (w + 15100) (xs (i + 1)) hS hM)) (hi_at (MM.ob hM).choose_spec (by omega)) rfl rfl Y_X11_reach u_1106 N_X11_reach ⟨by decide, by decide⟩ hcs (Nat.le_of_ble_eq_true rfl) rfl dL_law_657 ?_
  rintro v _ _ f2 ⟨rfl, rfl, h2, hf2⟩
  obtain ⟨r2, rfl⟩ : ∃ r, v = some (.int r) := by
    rcases h2 with ⟨_, ev, _⟩ | ⟨_, _, _, _, ev, _⟩
    · exact ⟨_, ev⟩
    · exact ⟨_, ev⟩
  show V K c s P A f2 [(0, .ref b), (1, .ref (A (w + 15010))), (2, .ref (A (w + 15100))), (3, .int (nI i))] 660 [.int r2, .int r]
  have E := a_reach hB hS hk2 hX hM hKP h1 h2
  exact g_icmp_eq (pc := 660) C dL_law_660 (tgt := 803) (by decide) (fun _ => kk f2 (by rw [hf2]; exact E.2)) (fun q => absurd E.1 q)
set_option maxRecDepth 20000 in
set_option maxHeartbeats 4000000 in
theorem l_came {K : vT} {P : List Nat} {A : Nat → Nat} {g : pM} {b L w B i c s : Nat} {xs : Nat → Int32} (C : vC K cL_law RL 4 room_1) (X : LX K b L xs) (hi4 : i + 4 ≤ L) (hL : L ≤ 2048) (hB : B + 2001 < 2 ^ 30) (hN : NX A w (lo w g) (hi w g) B) (hcs : c ≤ 628067 ∧ s ≤ 7218046) (kk : ∀ g' : pM, NX A w (lo w g') (hi w g') (B + 2000) → V K c s P A g' [(0, .ref b), (1, .ref (A (w + 15010))), (2, .ref (A (w + 15100))), (3, .int (nI i))] 803 []) : V K c s P A g [(0, .ref b), (1, .ref (A (w + 15010))), (2, .ref (A (w + 15100))), (3, .int (nI i))] 665 [] := by
  obtain ⟨cs, σ, ks, hX, hM, hKP, hS, hk2⟩ := hN
  refine g_aload_n (pc := 665) C dL_law_665 1 rfl ?_
  refine g_aload_n (pc := 666) C dL_law_666 0 rfl ?_
  refine g_iload_n (pc := 667) C dL_law_667 3 rfl ?_
  refine g_iconst (pc := 668) C dL_law_668 (v := nI 1) rfl ?_
  refine g_iadd (pc := 669) C dL_law_669 (z := nI (i + 1)) (nI_add _ _) ?_
  refine g_sld (pc := 670) C X (iv := i + 1) (nI_clamp (by omega)) (nI_in0 (by omega) (by omega)) dL_law_670 ?_
  refine g_callV (pc := 671) C (As := [.int (xs (i + 1))]) (rest := []) (b := w + 15010) (pm_lo (w := w) (c_X10_came A _ _ w (xs (i + 1)) hX.1 hX.wd)) (lo_at hX.1 (by omega)) rfl rfl Y_X10_came u_774 N_X10_came ⟨by decide, by decide⟩ hcs (Nat.le_of_ble_eq_true rfl) rfl dL_law_671 ?_
  rintro v _ _ f ⟨rfl, rfl, h1, hf1⟩
  obtain ⟨r, rfl⟩ : ∃ r, v = some (.int r) := by
    rcases h1 with ⟨(⟨_, ev⟩ | ⟨_, _, _, ev⟩), _⟩
    · exact ⟨_, ev⟩
    · exact ⟨_, ev⟩
  rw [← hf1] at hM hKP
  show V K c s P A f [(0, .ref b), (1, .ref (A (w + 15010))), (2, .ref (A (w + 15100))), (3, .int (nI i))] 674 [.int r]
  refine g_aload_n (pc := 674) C dL_law_674 2 rfl ?_
  refine g_aload_n (pc := 675) C dL_law_675 0 rfl ?_
  refine g_iload_n (pc := 676) C dL_law_676 3 rfl ?_
  refine g_iconst (pc := 677) C dL_law_677 (v := nI 1) rfl ?_
  refine g_iadd (pc := 678) C dL_law_678 (z := nI (i + 1)) (nI_add _ _) ?_
  refine g_sld (pc := 679) C X (iv := i + 1) (nI_clamp (by omega)) (nI_in0 (by omega) (by omega)) dL_law_679 ?_
  refine g_callV (pc := 680) C (As := [.int (xs (i + 1))]) (rest := [.int r]) (b := w + 15100) (pm_hi (w := w) (c_X11_came A _ _ (w + 15100) (xs (i + 1)) hS hM)) (hi_at (MM.ob hM).choose_spec (by omega)) rfl rfl Y_X11_came u_1110 N_X11_came ⟨by decide, by decide⟩ hcs (Nat.le_of_ble_eq_true rfl) rfl dL_law_680 ?_
  rintro v _ _ f2 ⟨rfl, rfl, h2, hf2⟩
  obtain ⟨r2, rfl⟩ : ∃ r, v = some (.int r) := by
    rcases h2 with ⟨(⟨_, ev⟩ | ⟨_, _, _, ev⟩), _⟩
    · exact ⟨_, ev⟩
    · exact ⟨_, ev⟩
  show V K c s P A f2 [(0, .ref b), (1, .ref (A (w + 15010))), (2, .ref (A (w + 15100))), (3, .int (nI i))] 683 [.int r2, .int r]
  have E := a_came hB hS hk2 hX hM hKP h1 h2
  exact g_icmp_eq (pc := 683) C dL_law_683 (tgt := 803) (by decide) (fun _ => kk f2 (by rw [hf2]; exact E.2)) (fun q => absurd E.1 q)
set_option maxRecDepth 20000 in
set_option maxHeartbeats 4000000 in
theorem l_spread {K : vT} {P : List Nat} {A : Nat → Nat} {g : pM} {b L w B i c s : Nat} {xs : Nat → Int32} (C : vC K cL_law RL 4 room_1) (X : LX K b L xs) (hi4 : i + 4 ≤ L) (hL : L ≤ 2048) (hB : B + 2001 < 2 ^ 30) (hN : NX A w (lo w g) (hi w g) B) (hcs : c ≤ 628067 ∧ s ≤ 7218046) (kk : ∀ g' : pM, NX A w (lo w g') (hi w g') (B + 2000) → V K c s P A g' [(0, .ref b), (1, .ref (A (w + 15010))), (2, .ref (A (w + 15100))), (3, .int (nI i))] 803 []) : V K c s P A g [(0, .ref b), (1, .ref (A (w + 15010))), (2, .ref (A (w + 15100))), (3, .int (nI i))] 688 [] := by
  obtain ⟨cs, σ, ks, hX, hM, hKP, hS, hk2⟩ := hN
  refine g_aload_n (pc := 688) C dL_law_688 1 rfl ?_
  refine g_aload_n (pc := 689) C dL_law_689 0 rfl ?_
  refine g_iload_n (pc := 690) C dL_law_690 3 rfl ?_
  refine g_iconst (pc := 691) C dL_law_691 (v := nI 1) rfl ?_
  refine g_iadd (pc := 692) C dL_law_692 (z := nI (i + 1)) (nI_add _ _) ?_
  refine g_sld (pc := 693) C X (iv := i + 1) (nI_clamp (by omega)) (nI_in0 (by omega) (by omega)) dL_law_693 ?_
  refine g_callV (pc := 694) C (As := [.int (xs (i + 1))]) (rest := []) (b := w + 15010) (pm_lo (w := w) (c_X10_spread A _ _ w (xs (i + 1)) (fun i hi => hS.dw hi) hX.1 hX.wd)) (lo_at hX.1 (by omega)) rfl rfl Y_X10_spread u_778 N_X10_spread ⟨by decide, by decide⟩ hcs (Nat.le_of_ble_eq_true rfl) rfl dL_law_694 ?_
  rintro v _ _ f ⟨rfl, rfl, h1, hf1⟩
  obtain ⟨r, rfl⟩ : ∃ r, v = some (.int r) := by
    rcases h1 with ⟨ev, _⟩
    · exact ⟨_, ev⟩
  rw [← hf1] at hM hKP
  show V K c s P A f [(0, .ref b), (1, .ref (A (w + 15010))), (2, .ref (A (w + 15100))), (3, .int (nI i))] 697 [.int r]
  refine g_aload_n (pc := 697) C dL_law_697 2 rfl ?_
  refine g_aload_n (pc := 698) C dL_law_698 0 rfl ?_
  refine g_iload_n (pc := 699) C dL_law_699 3 rfl ?_
  refine g_iconst (pc := 700) C dL_law_700 (v := nI 1) rfl ?_
  refine g_iadd (pc := 701) C dL_law_701 (z := nI (i + 1)) (nI_add _ _) ?_
  refine g_sld (pc := 702) C X (iv := i + 1) (nI_clamp (by omega)) (nI_in0 (by omega) (by omega)) dL_law_702 ?_
  refine g_callV (pc := 703) C (As := [.int (xs (i + 1))]) (rest := [.int r]) (b := w + 15100) (pm_hi (w := w) (c_X11_spread A _ _ (w + 15100) (xs (i + 1)) hS hM)) (hi_at (MM.ob hM).choose_spec (by omega)) rfl rfl Y_X11_spread u_1115 N_X11_spread ⟨by decide, by decide⟩ hcs (Nat.le_of_ble_eq_true rfl) rfl dL_law_703 ?_
  rintro v _ _ f2 ⟨rfl, rfl, h2, hf2⟩
  obtain ⟨r2, rfl⟩ : ∃ r, v = some (.int r) := by
    rcases h2 with ⟨ev, _⟩
    · exact ⟨_, ev⟩
  show V K c s P A f2 [(0, .ref b), (1, .ref (A (w + 15010))), (2, .ref (A (w + 15100))), (3, .int (nI i))] 706 [.int r2, .int r]
  have E := a_spread hB hS hk2 hX hM hKP h1 h2
  exact g_icmp_eq (pc := 706) C dL_law_706 (tgt := 803) (by decide) (fun _ => kk f2 (by rw [hf2]; exact E.2)) (fun q => absurd E.1 q)
set_option maxRecDepth 20000 in
set_option maxHeartbeats 4000000 in
theorem l_told {K : vT} {P : List Nat} {A : Nat → Nat} {g : pM} {b L w B i c s : Nat} {xs : Nat → Int32} (C : vC K cL_law RL 4 room_1) (X : LX K b L xs) (hi4 : i + 4 ≤ L) (hL : L ≤ 2048) (hB : B + 2001 < 2 ^ 30) (hN : NX A w (lo w g) (hi w g) B) (hcs : c ≤ 628067 ∧ s ≤ 7218046) (kk : ∀ g' : pM, NX A w (lo w g') (hi w g') (B + 2000) → V K c s P A g' [(0, .ref b), (1, .ref (A (w + 15010))), (2, .ref (A (w + 15100))), (3, .int (nI i))] 803 []) : V K c s P A g [(0, .ref b), (1, .ref (A (w + 15010))), (2, .ref (A (w + 15100))), (3, .int (nI i))] 711 [] := by
  obtain ⟨cs, σ, ks, hX, hM, hKP, hS, hk2⟩ := hN
  refine g_aload_n (pc := 711) C dL_law_711 1 rfl ?_
  refine g_aload_n (pc := 712) C dL_law_712 0 rfl ?_
  refine g_iload_n (pc := 713) C dL_law_713 3 rfl ?_
  refine g_iconst (pc := 714) C dL_law_714 (v := nI 1) rfl ?_
  refine g_iadd (pc := 715) C dL_law_715 (z := nI (i + 1)) (nI_add _ _) ?_
  refine g_sld (pc := 716) C X (iv := i + 1) (nI_clamp (by omega)) (nI_in0 (by omega) (by omega)) dL_law_716 ?_
  refine g_callV (pc := 717) C (As := [.int (xs (i + 1))]) (rest := []) (b := w + 15010) (pm_lo (w := w) (c_X10_told A _ _ w (xs (i + 1)) hX)) (lo_at hX.1 (by omega)) rfl rfl Y_X10_told u_787 N_X10_told ⟨by decide, by decide⟩ hcs (Nat.le_of_ble_eq_true rfl) rfl dL_law_717 ?_
  rintro v _ _ f ⟨rfl, rfl, h1, hf1⟩
  obtain ⟨r, rfl⟩ : ∃ r, v = some (.int r) := by
    rcases h1 with ⟨(⟨_, ev⟩ | ⟨_, _, _, ev⟩), _⟩
    · exact ⟨_, ev⟩
    · exact ⟨_, ev⟩
  rw [← hf1] at hM hKP
  show V K c s P A f [(0, .ref b), (1, .ref (A (w + 15010))), (2, .ref (A (w + 15100))), (3, .int (nI i))] 720 [.int r]
  refine g_aload_n (pc := 720) C dL_law_720 2 rfl ?_
  refine g_aload_n (pc := 721) C dL_law_721 0 rfl ?_
  refine g_iload_n (pc := 722) C dL_law_722 3 rfl ?_
  refine g_iconst (pc := 723) C dL_law_723 (v := nI 1) rfl ?_
  refine g_iadd (pc := 724) C dL_law_724 (z := nI (i + 1)) (nI_add _ _) ?_
  refine g_sld (pc := 725) C X (iv := i + 1) (nI_clamp (by omega)) (nI_in0 (by omega) (by omega)) dL_law_725 ?_
  refine g_callV (pc := 726) C (As := [.int (xs (i + 1))]) (rest := [.int r]) (b := w + 15100) (pm_hi (w := w) (c_X11_told A _ _ (w + 15100) (xs (i + 1)) hS hM)) (hi_at (MM.ob hM).choose_spec (by omega)) rfl rfl Y_X11_told u_1119 N_X11_told ⟨by decide, by decide⟩ hcs (Nat.le_of_ble_eq_true rfl) rfl dL_law_726 ?_
  rintro v _ _ f2 ⟨rfl, rfl, h2, hf2⟩
  obtain ⟨r2, rfl⟩ : ∃ r, v = some (.int r) := by
    rcases h2 with ⟨(⟨_, ev⟩ | ⟨_, _, _, ev⟩), _⟩
    · exact ⟨_, ev⟩
    · exact ⟨_, ev⟩
  show V K c s P A f2 [(0, .ref b), (1, .ref (A (w + 15010))), (2, .ref (A (w + 15100))), (3, .int (nI i))] 729 [.int r2, .int r]
  have E := a_told hB hS hk2 hX hM hKP h1 h2
  exact g_icmp_eq (pc := 729) C dL_law_729 (tgt := 803) (by decide) (fun _ => kk f2 (by rw [hf2]; exact E.2)) (fun q => absurd E.1 q)
set_option maxRecDepth 20000 in
set_option maxHeartbeats 4000000 in
theorem l_keep {K : vT} {P : List Nat} {A : Nat → Nat} {g : pM} {b L w B i c s : Nat} {xs : Nat → Int32} (C : vC K cL_law RL 4 room_1) (X : LX K b L xs) (hi4 : i + 4 ≤ L) (hL : L ≤ 2048) (hB : B + 2001 < 2 ^ 30) (hN : NX A w (lo w g) (hi w g) B) (hcs : c ≤ 628067 ∧ s ≤ 7218046) (kk : ∀ g' : pM, NX A w (lo w g') (hi w g') (B + 2000) → V K c s P A g' [(0, .ref b), (1, .ref (A (w + 15010))), (2, .ref (A (w + 15100))), (3, .int (nI i))] 803 []) : V K c s P A g [(0, .ref b), (1, .ref (A (w + 15010))), (2, .ref (A (w + 15100))), (3, .int (nI i))] 734 [] := by
  obtain ⟨cs, σ, ks, hX, hM, hKP, hS, hk2⟩ := hN
  refine g_aload_n (pc := 734) C dL_law_734 1 rfl ?_
  refine g_aload_n (pc := 735) C dL_law_735 0 rfl ?_
  refine g_iload_n (pc := 736) C dL_law_736 3 rfl ?_
  refine g_iconst (pc := 737) C dL_law_737 (v := nI 1) rfl ?_
  refine g_iadd (pc := 738) C dL_law_738 (z := nI (i + 1)) (nI_add _ _) ?_
  refine g_sld (pc := 739) C X (iv := i + 1) (nI_clamp (by omega)) (nI_in0 (by omega) (by omega)) dL_law_739 ?_
  refine g_callV (pc := 740) C (As := [.int (xs (i + 1))]) (rest := []) (b := w + 15010) (pm_lo (w := w) (c_X10_keep A _ _ w (xs (i + 1)) hS hX)) (lo_at hX.1 (by omega)) rfl rfl Y_X10_keep u_795 N_X10_keep ⟨by decide, by decide⟩ hcs (Nat.le_of_ble_eq_true rfl) rfl dL_law_740 ?_
  rintro v _ _ f ⟨rfl, rfl, h1, hf1⟩
  obtain ⟨r, rfl⟩ : ∃ r, v = some (.int r) := by
    rcases h1 with ⟨_, ev, _⟩ | ⟨_, _, _, ev, _⟩
    · exact ⟨_, ev⟩
    · exact ⟨_, ev⟩
  rw [← hf1] at hM hKP
  show V K c s P A f [(0, .ref b), (1, .ref (A (w + 15010))), (2, .ref (A (w + 15100))), (3, .int (nI i))] 743 [.int r]
  refine g_aload_n (pc := 743) C dL_law_743 2 rfl ?_
  refine g_aload_n (pc := 744) C dL_law_744 0 rfl ?_
  refine g_iload_n (pc := 745) C dL_law_745 3 rfl ?_
  refine g_iconst (pc := 746) C dL_law_746 (v := nI 1) rfl ?_
  refine g_iadd (pc := 747) C dL_law_747 (z := nI (i + 1)) (nI_add _ _) ?_
  refine g_sld (pc := 748) C X (iv := i + 1) (nI_clamp (by omega)) (nI_in0 (by omega) (by omega)) dL_law_748 ?_
  refine g_callV (pc := 749) C (As := [.int (xs (i + 1))]) (rest := [.int r]) (b := w + 15100) (pm_hi (w := w) (c_X11_keep A _ _ (w + 15100) (xs (i + 1)) hKP hS hM)) (hi_at (MM.ob hM).choose_spec (by omega)) rfl rfl Y_X11_keep u_1123 N_X11_keep ⟨by decide, by decide⟩ hcs (Nat.le_of_ble_eq_true rfl) rfl dL_law_749 ?_
  rintro v _ _ f2 ⟨rfl, rfl, h2, hf2⟩
  obtain ⟨r2, rfl⟩ : ∃ r, v = some (.int r) := by
    rcases h2 with ⟨_, ev, _⟩ | ⟨_, _, _, ev, _, _, _⟩
    · exact ⟨_, ev⟩
    · exact ⟨_, ev⟩
  show V K c s P A f2 [(0, .ref b), (1, .ref (A (w + 15010))), (2, .ref (A (w + 15100))), (3, .int (nI i))] 752 [.int r2, .int r]
  have E := a_keep hB hS hk2 hX hM hKP h1 h2
  exact g_icmp_eq (pc := 752) C dL_law_752 (tgt := 803) (by decide) (fun _ => kk f2 (by rw [hf2]; exact E.2)) (fun q => absurd E.1 q)
set_option maxRecDepth 20000 in
set_option maxHeartbeats 4000000 in
theorem l_back {K : vT} {P : List Nat} {A : Nat → Nat} {g : pM} {b L w B i c s : Nat} {xs : Nat → Int32} (C : vC K cL_law RL 4 room_1) (X : LX K b L xs) (hi4 : i + 4 ≤ L) (hL : L ≤ 2048) (hB : B + 2001 < 2 ^ 30) (hN : NX A w (lo w g) (hi w g) B) (hcs : c ≤ 628067 ∧ s ≤ 7218046) (kk : ∀ g' : pM, NX A w (lo w g') (hi w g') (B + 2000) → V K c s P A g' [(0, .ref b), (1, .ref (A (w + 15010))), (2, .ref (A (w + 15100))), (3, .int (nI i))] 803 []) : V K c s P A g [(0, .ref b), (1, .ref (A (w + 15010))), (2, .ref (A (w + 15100))), (3, .int (nI i))] 757 [] := by
  obtain ⟨cs, σ, ks, hX, hM, hKP, hS, hk2⟩ := hN
  refine g_aload_n (pc := 757) C dL_law_757 1 rfl ?_
  refine g_aload_n (pc := 758) C dL_law_758 0 rfl ?_
  refine g_iload_n (pc := 759) C dL_law_759 3 rfl ?_
  refine g_iconst (pc := 760) C dL_law_760 (v := nI 1) rfl ?_
  refine g_iadd (pc := 761) C dL_law_761 (z := nI (i + 1)) (nI_add _ _) ?_
  refine g_sld (pc := 762) C X (iv := i + 1) (nI_clamp (by omega)) (nI_in0 (by omega) (by omega)) dL_law_762 ?_
  refine g_callV (pc := 763) C (As := [.int (xs (i + 1))]) (rest := []) (b := w + 15010) (pm_lo (w := w) (c_X10_back A _ _ w (xs (i + 1)) hS hX)) (lo_at hX.1 (by omega)) rfl rfl Y_X10_back u_826 N_X10_back ⟨by decide, by decide⟩ hcs (Nat.le_of_ble_eq_true rfl) rfl dL_law_763 ?_
  rintro v _ _ f ⟨rfl, rfl, h1, hf1⟩
  obtain ⟨r, rfl⟩ : ∃ r, v = some (.int r) := by
    rcases h1 with ⟨_, ev, _⟩ | ⟨_, _, _, _, _, ev, _⟩
    · exact ⟨_, ev⟩
    · exact ⟨_, ev⟩
  rw [← hf1] at hM hKP
  show V K c s P A f [(0, .ref b), (1, .ref (A (w + 15010))), (2, .ref (A (w + 15100))), (3, .int (nI i))] 766 [.int r]
  refine g_aload_n (pc := 766) C dL_law_766 2 rfl ?_
  refine g_aload_n (pc := 767) C dL_law_767 0 rfl ?_
  refine g_iload_n (pc := 768) C dL_law_768 3 rfl ?_
  refine g_iconst (pc := 769) C dL_law_769 (v := nI 1) rfl ?_
  refine g_iadd (pc := 770) C dL_law_770 (z := nI (i + 1)) (nI_add _ _) ?_
  refine g_sld (pc := 771) C X (iv := i + 1) (nI_clamp (by omega)) (nI_in0 (by omega) (by omega)) dL_law_771 ?_
  refine g_callV (pc := 772) C (As := [.int (xs (i + 1))]) (rest := [.int r]) (b := w + 15100) (pm_hi (w := w) (c_X11_back A _ _ (w + 15100) (xs (i + 1)) hKP hS hM)) (hi_at (MM.ob hM).choose_spec (by omega)) rfl rfl Y_X11_back u_1127 N_X11_back ⟨by decide, by decide⟩ hcs (Nat.le_of_ble_eq_true rfl) rfl dL_law_772 ?_
  rintro v _ _ f2 ⟨rfl, rfl, h2, hf2⟩
  obtain ⟨r2, rfl⟩ : ∃ r, v = some (.int r) := by
    rcases h2 with ⟨_, ev, _⟩ | ⟨_, _, _, _, _, ev, _, _⟩
    · exact ⟨_, ev⟩
    · exact ⟨_, ev⟩
  show V K c s P A f2 [(0, .ref b), (1, .ref (A (w + 15010))), (2, .ref (A (w + 15100))), (3, .int (nI i))] 775 [.int r2, .int r]
  have E := a_back hB hS hk2 hX hM hKP h1 h2
  exact g_icmp_eq (pc := 775) C dL_law_775 (tgt := 803) (by decide) (fun _ => kk f2 (by rw [hf2]; exact E.2)) (fun q => absurd E.1 q)
set_option maxRecDepth 20000 in
set_option maxHeartbeats 4000000 in
theorem l_differs {K : vT} {P : List Nat} {A : Nat → Nat} {g : pM} {b L w B i c s : Nat} {xs : Nat → Int32} (C : vC K cL_law RL 4 room_1) (X : LX K b L xs) (hi4 : i + 4 ≤ L) (hL : L ≤ 2048) (hB : B + 2001 < 2 ^ 30) (hN : NX A w (lo w g) (hi w g) B) (hcs : c ≤ 628067 ∧ s ≤ 7218046) (kk : ∀ g' : pM, NX A w (lo w g') (hi w g') (B + 2000) → V K c s P A g' [(0, .ref b), (1, .ref (A (w + 15010))), (2, .ref (A (w + 15100))), (3, .int (nI i))] 803 []) : V K c s P A g [(0, .ref b), (1, .ref (A (w + 15010))), (2, .ref (A (w + 15100))), (3, .int (nI i))] 780 [] := by
  obtain ⟨cs, σ, ks, hX, hM, hKP, hS, hk2⟩ := hN
  refine g_aload_n (pc := 780) C dL_law_780 1 rfl ?_
  refine g_aload_n (pc := 781) C dL_law_781 0 rfl ?_
  refine g_iload_n (pc := 782) C dL_law_782 3 rfl ?_
  refine g_iconst (pc := 783) C dL_law_783 (v := nI 1) rfl ?_
  refine g_iadd (pc := 784) C dL_law_784 (z := nI (i + 1)) (nI_add _ _) ?_
  refine g_sld (pc := 785) C X (iv := i + 1) (nI_clamp (by omega)) (nI_in0 (by omega) (by omega)) dL_law_785 ?_
  refine g_callV (pc := 786) C (As := [.int (xs (i + 1))]) (rest := []) (b := w + 15010) (pm_lo (w := w) (c_X10_differs A _ _ w (xs (i + 1)) hk2 hS hX)) (lo_at hX.1 (by omega)) rfl rfl Y_X10_differs u_830 N_X10_differs ⟨by decide, by decide⟩ hcs (Nat.le_of_ble_eq_true rfl) rfl dL_law_786 ?_
  rintro v _ _ f ⟨rfl, rfl, h1, hf1⟩
  obtain ⟨r, rfl⟩ : ∃ r, v = some (.int r) := by
    rcases h1 with ⟨_, ev, _⟩ | ⟨_, _, _, _, _, ev, _⟩
    · exact ⟨_, ev⟩
    · exact ⟨_, ev⟩
  rw [← hf1] at hM hKP
  show V K c s P A f [(0, .ref b), (1, .ref (A (w + 15010))), (2, .ref (A (w + 15100))), (3, .int (nI i))] 789 [.int r]
  refine g_aload_n (pc := 789) C dL_law_789 2 rfl ?_
  refine g_aload_n (pc := 790) C dL_law_790 0 rfl ?_
  refine g_iload_n (pc := 791) C dL_law_791 3 rfl ?_
  refine g_iconst (pc := 792) C dL_law_792 (v := nI 1) rfl ?_
  refine g_iadd (pc := 793) C dL_law_793 (z := nI (i + 1)) (nI_add _ _) ?_
  refine g_sld (pc := 794) C X (iv := i + 1) (nI_clamp (by omega)) (nI_in0 (by omega) (by omega)) dL_law_794 ?_
  refine g_callV (pc := 795) C (As := [.int (xs (i + 1))]) (rest := [.int r]) (b := w + 15100) (pm_hi (w := w) (c_X11_differs A _ _ (w + 15100) (xs (i + 1)) hKP (fun k s h => ⟨B, hk2 k s h⟩) hS hM)) (hi_at (MM.ob hM).choose_spec (by omega)) rfl rfl Y_X11_differs u_1131 N_X11_differs ⟨by decide, by decide⟩ hcs (Nat.le_of_ble_eq_true rfl) rfl dL_law_795 ?_
  rintro v _ _ f2 ⟨rfl, rfl, h2, hf2⟩
  obtain ⟨r2, rfl⟩ : ∃ r, v = some (.int r) := by
    rcases h2 with ⟨_, ev, _⟩ | ⟨_, _, _, _, _, ev, _⟩
    · exact ⟨_, ev⟩
    · exact ⟨_, ev⟩
  show V K c s P A f2 [(0, .ref b), (1, .ref (A (w + 15010))), (2, .ref (A (w + 15100))), (3, .int (nI i))] 798 [.int r2, .int r]
  have E := a_differs hB hS hk2 hX hM hKP h1 h2
  exact g_icmp_eq (pc := 798) C dL_law_798 (tgt := 803) (by decide) (fun _ => kk f2 (by rw [hf2]; exact E.2)) (fun q => absurd E.1 q)
