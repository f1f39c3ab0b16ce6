/** What the tests share: an answer is held against the one that is due. */
final class Due {
    private static int wrong = 0;
    private static String sentence = "";

    private Due() {
    }

    /** The document's sentence that the next answers stand for; a wrong answer tells it. */
    static void sentence(String words) {
        sentence = "[" + words + "] ";
    }

    static void is(String call, long got, long want) {
        if (got != want) {
            wrong++;
            System.out.println(sentence + call + " answered " + got + ", due is " + want);
        }
    }

    static OneJohn type(OneJohn x, String text) {
        for (int i = 0; i < text.length(); i++) {
            x.type(text.charAt(i));
        }
        return x;
    }

    /** A new object whose republic a text tells. */
    static OneJohn told(String text) {
        OneJohn x = type(new OneJohn(), text);
        int items = x.republic();
        if (items < 0) {
            wrong++;
            System.out.println("\"" + text + "\" was refused: " + items);
        }
        return x;
    }

    static void end() {
        if (wrong != 0) {
            System.out.println(wrong + " answers are not as due");
            System.exit(1);
        }
    }
}
