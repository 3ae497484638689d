/** Every text of up to five of the signs that commands are made of, compared with the model. */
public final class ShortTextsTest {
    private static final String SIGNS = "+ab>;-0=snw";
    private static final int MOST = 5;

    private final Check check = new Check();

    public static void main(String[] args) {
        ShortTextsTest test = new ShortTextsTest();
        for (int length = 0; length <= MOST; length++) {
            test.textsOf(length);
        }
        test.check.finish("ShortTextsTest");
    }

    private void textsOf(int length) {
        int texts = 1;
        for (int i = 0; i < length; i++) {
            texts *= SIGNS.length();
        }
        for (int number = 0; number < texts && check.wrong() < 20; number++) {
            compare(text(number, length));
        }
    }

    private static String text(int number, int length) {
        StringBuilder text = new StringBuilder();
        int rest = number;
        for (int i = 0; i < length; i++) {
            text.append(SIGNS.charAt(rest % SIGNS.length()));
            rest /= SIGNS.length();
        }
        return text.toString();
    }

    private void compare(String text) {
        FallingWords words = new FallingWords();
        Model model = new Model();
        for (int i = 0; i < text.length(); i++) {
            words.type(text.charAt(i));
            model.type(text.charAt(i));
        }
        for (int what = 0; what <= 2; what++) {
            check.due("fault(" + what + ") of " + text, words.fault(what), model.fault(what));
        }
        check.due("play() of " + text, words.play(), model.play());
        for (int what = 0; what <= 10; what++) {
            check.due("count(" + what + ") behind " + text, words.count(what), model.count(what));
        }
    }
}
