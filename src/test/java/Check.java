/** Counts and prints the answers of one test that are not as due. */
final class Check {
    private final String name;
    private int asked = 0;
    private int wrong = 0;
    private String sentence = "";

    Check(String name) {
        this.name = name;
    }

    /** The sentence of the document that the next answers are due by. */
    void about(String words) {
        sentence = " (" + words + ")";
    }

    void due(String call, long got, long want) {
        asked++;
        if (got != want) {
            wrong++;
            System.out.println(name + sentence + ": " + call + " answered " + got + ", due is " + want);
        }
    }

    void end() {
        System.out.println(name + ": " + asked + " answers, " + wrong + " not as due");
        if (wrong != 0 || asked == 0) {
            System.exit(1);
        }
    }

    static void write(FourTenGates gates, String text) {
        for (int k = 0; k < text.length(); k++) {
            gates.write(text.charAt(k));
        }
    }

    static FourTenGates written(String text) {
        FourTenGates gates = new FourTenGates();
        write(gates, text);
        return gates;
    }

    static FourTenGates laid(String text) {
        FourTenGates gates = written(text);
        if (gates.lay() < 1) {
            throw new IllegalStateException("a test's own text cannot be laid: " + text);
        }
        return gates;
    }
}
