/** Short ways to bring an object to where a test begins. */
final class Do {

    private Do() {
    }

    /** Runs an order text, whose orders must all be executed. */
    static void texts(StreetEditions x, String text) {
        x.clearText();
        type(x, text);
        Due.is("run of " + text, x.run(), text.split(";").length);
    }

    static void type(StreetEditions x, String text) {
        for (int i = 0; i < text.length(); i++) {
            x.append(text.charAt(i));
        }
    }

    static StreetEditions after(String... texts) {
        StreetEditions x = new StreetEditions();
        for (String text : texts) {
            texts(x, text);
        }
        return x;
    }

    static StreetEditions typed(String text) {
        StreetEditions x = new StreetEditions();
        type(x, text);
        return x;
    }

    static void addFirst(StreetEditions x, int streets) {
        for (int s = 0; s < streets; s++) {
            x.add(s);
        }
    }

    static StreetEditions withPublished(int streets) {
        StreetEditions x = new StreetEditions();
        addFirst(x, streets);
        x.publish();
        return x;
    }

    /** Publishes some editions, each of which differs from the one before by street 29 alone. */
    static void publish(StreetEditions x, int editions) {
        for (int e = 0; e < editions; e++) {
            toggle(x, 29);
            x.publish();
        }
    }

    static void toggle(StreetEditions x, int street) {
        if (x.where(street) % 2 == 1) {
            x.crossOut(street);
        } else {
            x.add(street);
        }
    }

    /**
     * An object in which everything is in use: a draft with changes, as many differences as are kept, followers
     * awake and asleep, with and without notices and lists, an order text, and three saved states.
     */
    static StreetEditions busy() {
        StreetEditions x = after("+1;+2;+3;+4;+5;p;r0;r1;s1;r3;s3;+6;p;-1");
        x.setKeep(2);
        texts(x, "+7;p;-2;+8;w3");
        type(x, "+9;p;r0;n4;s2");
        return x;
    }
}
