/** Makes markets from texts, and pictures of their whole state. */
final class Markets {
    private Markets() {
    }

    static void write(TradeRings x, String text) {
        for (int k = 0; k < text.length(); k++) {
            x.append(text.charAt(k));
        }
    }

    static TradeRings of(String text) {
        TradeRings x = new TradeRings();
        write(x, text);
        x.load();
        return x;
    }

    /** The state as a text of the document's form, with the text's error position behind it. */
    static String picture(TradeRings x) {
        StringBuilder all = new StringBuilder("M");
        int count = x.about(0);
        all.append(count);
        for (int i = 0; i < count; i++) {
            for (int t = 0; t < count; t++) {
                all.append(x.rank(i, t));
            }
        }
        all.append('/');
        for (int i = 0; i < count; i++) {
            all.append(x.trader(i, 0)).append(x.trader(i, 2) == 1 ? "" : "!");
        }
        return all.append(" text ").append(x.errorPosition()).toString();
    }

    /** How many states are remembered; takes them all back. */
    static int remembered(TradeRings x) {
        int states = 0;
        while (states < 100) {
            try {
                x.undo();
            } catch (IllegalStateException e) {
                return states;
            }
            states++;
        }
        return states;
    }
}
