/** What the tests of single answers share: an answer is held against the one that is due; formulas are written. */
abstract class Answers {
    static final int FAR = Integer.MAX_VALUE;
    static final int DEEP = Integer.MIN_VALUE;
    private static int wrong = 0;
    private static int asked = 0;
    private static int sentences = 0;
    private static String sentence = "";

    /** The sentence of the document that the next answers are about. */
    static void sentence(String words) {
        sentences++;
        sentence = words;
    }

    static void due(String what, long got, long want) {
        asked++;
        if (got != want) {
            wrong++;
            System.out.println(sentence + " | " + what + ": answered " + got + ", due is " + want);
        }
    }

    static void due(String what, boolean got, boolean want) {
        due(what, got ? 1 : 0, want ? 1 : 0);
    }

    static void end() {
        System.out.println(asked + " answers about " + sentences + " sentences, " + wrong + " not as due");
        if (wrong != 0) {
            System.exit(1);
        }
    }

    static int at(String name) {
        return 8 * (name.charAt(1) - '1') + name.charAt(0) - 'A';
    }

    static String name(int c) {
        return "" + (char) ('A' + c % 8) + (char) ('1' + c / 8);
    }

    static int word(String text, int from) {
        int word = 0;
        for (int i = from; i < from + 4; i++) {
            word = word << 8 | (i < text.length() ? text.charAt(i) : ' ');
        }
        return word;
    }

    static void feedText(SheetMarker x, String text) {
        for (int i = 0; i == 0 || i < text.length(); i += 20) {
            x.feed(word(text, i), word(text, i + 4), word(text, i + 8), word(text, i + 12), word(text, i + 16));
        }
    }

    static int write(SheetMarker x, int s, int c, String text) {
        feedText(x, text);
        return x.formula(s, c, text.length());
    }

    static int write(SheetMarker x, int s, String name, String text) {
        return write(x, s, at(name), text);
    }

    static void writes(SheetMarker x, int s, String name, String text) {
        due("formula " + text + " in " + name, write(x, s, name, text), 0);
    }
}
