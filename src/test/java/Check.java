/** Counts answers that are due, and lays out rows and texts for the tests. */
final class Check {
    private final String name;
    private int passed;
    private int failed;

    Check(String name) {
        this.name = name;
    }

    void due(String call, long got, long want) {
        if (got == want) {
            passed++;
        } else {
            failed++;
            System.out.println(name + ": " + call + " answered " + got + ", due is " + want);
        }
    }

    void end() {
        System.out.println(name + ": " + passed + " passed, " + failed + " failed");
        if (failed > 0 || passed == 0) {
            System.exit(1);
        }
    }

    static void feed(CausewayKept x, String letters) {
        for (int i = 0; i < letters.length(); i++) {
            x.feed(letters.charAt(i));
        }
    }

    static int read(CausewayKept x, String letters) {
        feed(x, letters);
        return x.text();
    }

    /** A new object whose rule is this text. */
    static CausewayKept ruled(String letters) {
        CausewayKept x = new CausewayKept();
        int text = read(x, letters);
        if (text < 0 || x.force(text) != 0) {
            throw new IllegalStateException(letters + " is read as " + text);
        }
        return x;
    }

    static void lay(CausewayKept x, int sheet, int sort, int... row) {
        x.sheet(sheet, sort, row.length);
        for (int i = 0; i < row.length; i++) {
            x.cell(sheet, i, row[i]);
        }
    }
}
