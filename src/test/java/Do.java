/** Short ways to bring an object to where a test begins. */
final class Do {

    private Do() {
    }

    /** Runs an order text, whose orders must all be executed. */
    static void texts(StreetEditions x, String text) {
        x.clearText();
        type(x, text);
        Due.is("run of " + text, x.run(), text.split(";").length);
    }

    static void type(StreetEditions x, String text) {
        for (int i = 0; i < text.length(); i++) {
            x.append(text.charAt(i));
        }
    }
}
