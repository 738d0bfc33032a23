/** What the tests of single answers have in common. */
abstract class DeskTest {
    private static int wrong = 0;
    private static String sentence = "";

    /** The sentence of the document that the answers from here on are due by. */
    static void by(String words) {
        sentence = words;
    }

    static void due(String what, long got, long want) {
        if (got != want) {
            tellWrong(what + ": answered " + got + ", due is " + want);
        }
    }

    static void due(String what, String got, String want) {
        if (!got.equals(want)) {
            tellWrong(what + ": answered '" + got + "', due is '" + want + "'");
        }
    }

    private static void tellWrong(String line) {
        wrong++;
        System.out.println(sentence.isEmpty() ? line : "[" + sentence + "] " + line);
    }

    static void end() {
        System.out.println(wrong == 0 ? "all answers are as due" : wrong + " answers are not as due");
        if (wrong != 0) {
            System.exit(1);
        }
    }

    static void tell(Desk desk, String text) {
        for (int from = 0; from < text.length(); from += 8) {
            int n = Math.min(8, text.length() - from);
            long v = 0;
            for (int i = from; i < from + n; i++) {
                v = v << 8 | text.charAt(i);
            }
            due("put of " + text, desk.put(v, n) ? 1 : 0, 1);
        }
    }

    static int declare(Desk desk, char name, String text) {
        tell(desk, text);
        return desk.declare(name - 'a');
    }

    static int expand(Desk desk, String text, int limit) {
        tell(desk, text);
        return desk.expand(limit);
    }

    static void declares(Desk desk, char name, String text, int want, int place) {
        String what = "declare " + name + " '" + text + "'";
        due(what, declare(desk, name, text), want);
        due(what + ", place", desk.place(), place);
        due(what + ", in hand", desk.count(3), 0);
    }

    static void expands(Desk desk, String text, int limit, int want, int place) {
        String what = "expand '" + text + "' to " + limit;
        due(what, expand(desk, text, limit), want);
        due(what + ", place", desk.place(), place);
        due(what + ", in hand", desk.count(3), 0);
    }

    static String given(Desk desk) {
        StringBuilder all = new StringBuilder();
        for (int i = 0, c = desk.given(0); c != -1; i++, c = desk.given(i)) {
            all.append((char) c);
        }
        return all.toString();
    }

    static String text(Desk desk, char name) {
        StringBuilder all = new StringBuilder();
        for (int i = 0, c = desk.text(name - 'a', 0); c != -1; i++, c = desk.text(name - 'a', i)) {
            all.append((char) c);
        }
        return all.toString();
    }

    /** Entities a .. of which each has the next one's reference alone, and the last this text. */
    static Desk chain(int links, String last) {
        Desk desk = new Desk();
        for (int i = 0; i < links - 1; i++) {
            declare(desk, (char) ('a' + i), "&" + (char) ('b' + i) + ";");
        }
        declare(desk, (char) ('a' + links - 1), last);
        return desk;
    }
}
