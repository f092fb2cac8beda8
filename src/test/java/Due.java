/** Compares answers with those that are due, prints every wrong one, and ends a test with exit code 1 if there was one. */
final class Due {
    private static final String DOC = Doc.text();
    private int wrong = 0;
    private int seen = 0;
    private String part = "";

    void part(String name) {
        part = name;
    }

    /** Names the part by a sentence of the document, which must stand there word for word if the document is at hand. */
    void sentence(String words) {
        part = words;
        isTrue("the sentence stands in the document", DOC.isEmpty() || DOC.contains(words));
    }

    void is(String call, long got, long want) {
        seen++;
        if (got != want) {
            wrong++;
            System.out.println(part + ": " + call + " answered " + got + ", due is " + want);
        }
    }

    void isTrue(String what, boolean holds) {
        is(what, holds ? 1 : 0, 1);
    }

    void end() {
        System.out.println(wrong == 0 ? seen + " answers are as due" : wrong + " of " + seen + " answers are not as due");
        if (wrong != 0) {
            System.exit(1);
        }
    }

    static void type(NightGarrison x, String text) {
        for (int i = 0; i < text.length(); i++) {
            x.feed(text.charAt(i));
        }
    }

    static int law(NightGarrison x, String text) {
        type(x, text);
        return x.law();
    }
}
