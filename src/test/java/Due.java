/** Counts and prints the answers that are not as due. */
final class Due {
    private static final int MOST_PRINTED = 20;

    private final String name;
    private int wrong = 0;

    Due(String name) {
        this.name = name;
    }

    void due(String call, long got, long want) {
        due(call, Long.toString(got), Long.toString(want));
    }

    void due(String call, String got, String want) {
        if (!got.equals(want)) {
            wrong++;
            // in a long run one fault draws many others after it
            if (wrong <= MOST_PRINTED) {
                System.out.println(name + ": " + call + " answered " + got + ", due is " + want);
            }
        }
    }

    int wrong() {
        return wrong;
    }

    void end() {
        System.out.println(wrong == 0 ? name + ": all as due" : name + ": " + wrong + " not as due");
        if (wrong != 0) {
            System.exit(1);
        }
    }
}
