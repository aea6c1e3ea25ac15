/** All that can be read from a SnowRounds without changing it, as a text. */
final class Snapshot {
    static String of(SnowRounds x) {
        return state(x) + " digest " + x.digest();
    }

    /** The same without the length of the text and the number of saved states. */
    static String state(SnowRounds x) {
        StringBuilder out = new StringBuilder();
        out.append("values").append(values(x));
        for (int i = 0; i < x.value(1); i++) {
            out.append(" street").append(i).append(street(x, i));
        }
        for (int i = 0; i < x.value(2); i++) {
            out.append(" plow").append(i).append(plow(x, i)).append(route(x, i));
        }
        for (int i = 0; i < 3; i++) {
            out.append(" terms").append(i).append(terms(x, i));
        }
        return out.append(" mean ").append(x.meanDepth()).toString();
    }

    static String values(SnowRounds x) {
        StringBuilder out = new StringBuilder();
        for (int what = 0; what <= 9; what++) {
            out.append(' ').append(x.value(what));
        }
        return out.toString();
    }

    static String street(SnowRounds x, int street) {
        StringBuilder out = new StringBuilder();
        for (int what = 0; what <= 8; what++) {
            out.append(' ').append(x.street(street, what));
        }
        return out.toString();
    }

    static String plow(SnowRounds x, int plow) {
        StringBuilder out = new StringBuilder();
        for (int what = 0; what <= 7; what++) {
            out.append(' ').append(x.plow(plow, what));
        }
        return out.toString();
    }

    static String route(SnowRounds x, int plow) {
        StringBuilder out = new StringBuilder(" [");
        for (int place = 0; place < x.plow(plow, 3); place++) {
            out.append(' ').append(x.stop(plow, place));
        }
        return out.append(" ]").toString();
    }

    static String terms(SnowRounds x, int priority) {
        StringBuilder out = new StringBuilder();
        for (int what = 0; what <= 3; what++) {
            out.append(' ').append(x.terms(priority, what));
        }
        return out.toString();
    }

    /** The number of saved states, found by its digest. */
    static int savedStates(SnowRounds x) {
        for (int textLength = 0; textLength <= 150; textLength++) {
            long rest = x.digest() - digest(x, textLength, 0);
            if (rest >= 0 && rest <= 4) {
                return (int) rest;
            }
        }
        return SnowRounds.NONE;
    }

    /** The digest, made from the answers of the other methods. */
    static long digest(SnowRounds x, int textLength, int savedStates) {
        StringBuilder all = new StringBuilder();
        all.append(textLength).append(values(x));
        for (int i = 0; i < x.value(1); i++) {
            all.append(street(x, i));
        }
        for (int i = 0; i < x.value(2); i++) {
            all.append(plow(x, i));
            for (int place = 0; place < x.plow(i, 3); place++) {
                all.append(' ').append(x.stop(i, place));
            }
        }
        for (int i = 0; i < 3; i++) {
            all.append(terms(x, i));
        }
        all.append(' ').append(savedStates);
        long hash = 3307;
        for (String word : all.toString().split(" ")) {
            hash = 31 * hash + Long.parseLong(word);
        }
        return hash;
    }

    private Snapshot() {
    }
}
