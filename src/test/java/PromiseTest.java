/** The promises of the document one by one: ordinary inputs, the edges it names, wrong inputs. */
public final class PromiseTest extends DeskTest {
    public static void main(String[] args) {
        newObject();
        putsBytesInOrder();
        putRefuses();
        declareKeepsTexts();
        declareReadsReferences();
        declareFaults();
        declareFirstCounts();
        declareRoom();
        declareRefuses();
        expandGives();
        expandCharacterReferences();
        expandFaultsInHand();
        expandFaultsInTexts();
        expandRings();
        expandDepth();
        expandMeter();
        expandMostGiven();
        expandOrderOfFaults();
        expandRefuses();
        placeOfTheLast();
        givenOfTheLast();
        textOfEntities();
        counts();
        objectsAreApart();
        end();
    }

    /** The first and last characters alone: an object is used for 512 calls at most. */
    private static void textIsAll(Desk desk, char name, int length) {
        due("first of " + name, desk.text(name - 'a', 0), name);
        due("last of " + name, desk.text(name - 'a', length - 1), name);
        due("behind " + name, desk.text(name - 'a', length), -1);
    }

    private static void newObject() {
        Desk desk = new Desk();
        for (int what = 0; what <= 5; what++) {
            due("new: count(" + what + ")", desk.count(what), 0);
        }
        due("new: place", desk.place(), -1);
        due("new: given(0)", desk.given(0), -1);
        for (int name = 0; name < 26; name++) {
            due("new: text(" + name + ", 0)", desk.text(name, 0), -1);
        }
        for (char name = 'a'; name <= 'z'; name++) {
            expands(desk, "&" + name + ";", 100000, -6, 0);
        }
        due("new: expand of nothing", new Desk().expand(0), 0);
        due("new: declare of nothing", new Desk().declare(0), 0);
    }

    private static void putsBytesInOrder() {
        long bytes = 0x8142434445464748L;
        String whole = "\u0081BCDEFGH";
        for (int n = 1; n <= 8; n++) {
            Desk desk = new Desk();
            tell(desk, "<");
            due("put of " + n, desk.put(bytes, n) ? 1 : 0, 1);
            due("put of " + n + ": in hand", desk.count(3), n + 1);
            tell(desk, ">");
            due("put of " + n + ": given", desk.expand(0), n + 2);
            due("put of " + n, given(desk), "<" + whole.substring(8 - n) + ">");
        }
        Desk desk = new Desk();
        desk.put(-1L, 8);
        desk.put(Long.MIN_VALUE, 8);
        due("bytes of any value", desk.expand(0), 16);
        due("255 first", desk.given(0), 255);
        due("255 last", desk.given(7), 255);
        due("128", desk.given(8), 128);
        due("0", desk.given(15), 0);
    }

    private static void putRefuses() {
        Desk desk = new Desk();
        int[] amounts = {0, -1, 9, 64, Integer.MIN_VALUE, Integer.MAX_VALUE};
        for (int n : amounts) {
            due("put of " + n, desk.put(65L, n) ? 1 : 0, 0);
            due("put of " + n + ": in hand", desk.count(3), 0);
            due("put of " + n + ": nothing to give", desk.expand(0), 0);
        }
        tell(desk, "x".repeat(396));
        due("401 in hand", desk.put(0L, 5) ? 1 : 0, 0);
        due("404 in hand", desk.put(0L, 8) ? 1 : 0, 0);
        due("still 396", desk.count(3), 396);
        due("400 in hand", desk.put(0x61626364L, 4) ? 1 : 0, 1);
        for (int n = -1; n <= 9; n++) {
            due("full, put of " + n, desk.put(0L, n) ? 1 : 0, 0);
        }
        for (int n : amounts) {
            due("full, put of " + n, desk.put(0L, n) ? 1 : 0, 0);
        }
        due("400 given", desk.expand(0), 400);
        due("first given", desk.given(0), 'x');
        due("last of the 396", desk.given(395), 'x');
        due("first of the 4", desk.given(396), 'a');
        due("last given", desk.given(399), 'd');
        due("put again", desk.put(0L, 8) ? 1 : 0, 1);
    }

    private static void declareKeepsTexts() {
        Desk desk = new Desk();
        declares(desk, 'a', "first", 5, -1);
        declares(desk, 'z', "last one", 8, -1);
        declares(desk, 'm', "", 0, -1);
        declares(desk, 'n', "\u0000\u0001\u007f\u00ff;#x", 7, -1);
        due("a", text(desk, 'a'), "first");
        due("z", text(desk, 'z'), "last one");
        due("m", text(desk, 'm'), "");
        due("n", text(desk, 'n'), "\u0000\u0001\u007f\u00ff;#x");
        due("entities", desk.count(0), 4);
        due("characters", desk.count(1), 20);
    }

    private static void declareReadsReferences() {
        String[][] told = {
            {"x&#65;y", "xAy"}, {"&#x41;&#x7a;&#x7A;", "Azz"}, {"&#000000000000065;", "A"},
            {"&#x0000000000fF;", "\u00ff"}, {"&#255;&#32;&#9;&#10;&#13;", "\u00ff \t\n\r"},
            {"&a;&b;&z;", "&a;&b;&z;"}, {"-&q;-", "-&q;-"}, {"&#38;", "&"}, {"&#38;a;", "&a;"},
            {"&#38;#65;", "&#65;"}, {"&#38;&#38;", "&&"}, {"&#38;#38;#38;", "&#38;#38;"},
            {"&#60;&#59;", "<;"}, {"a;b#c", "a;b#c"}, {"&#x26;x", "&x"},
            {"&#xa;&#xD;&#x9;&#x20;", "\n\r\t "},
        };
        Desk desk = new Desk();
        char name = 'a';
        for (String[] row : told) {
            declares(desk, name, row[0], row[1].length(), -1);
            due("text of " + row[0], text(desk, name), row[1]);
            name++;
        }
    }

    /** Texts that no reading lets through, with the fault's answer and its place. */
    private static final Object[][] FAULTY = {
        {"&", -3, 1}, {"ab&", -3, 3}, {"&a", -3, 2}, {"&#", -3, 2}, {"&#6", -3, 3}, {"&#65", -3, 4},
        {"&#x", -3, 3}, {"&#x4", -3, 4}, {"&#x41", -3, 5}, {"ok &#65;&#6", -3, 11},
        {"&;", -3, 1}, {"ab&;", -3, 3}, {"&&", -3, 1}, {"&&#97;;", -3, 1}, {"& a;", -3, 1},
        {"&A;", -3, 1}, {"&Z;", -3, 1}, {"&`;", -3, 1}, {"&{;", -3, 1}, {"&1;", -3, 1}, {"&\u00e1;", -3, 1},
        {"&ab;", -3, 2}, {"&a&", -3, 2}, {"&a ;", -3, 2}, {"&a&#59;", -3, 2}, {"&a\u0000;", -3, 2},
        {"&#;", -3, 2}, {"&#X41;", -3, 2}, {"&#a;", -3, 2}, {"&# 65;", -3, 2}, {"&#-1;", -3, 2}, {"&#&", -3, 2},
        {"&#/;", -3, 2}, {"&#:;", -3, 2}, {"&#6a;", -3, 3}, {"&#6x;", -3, 3}, {"&#0x41;", -3, 3}, {"&#65 ;", -3, 4},
        {"&#x;", -3, 3}, {"&#xx;", -3, 3}, {"&#xg;", -3, 3}, {"&#xG;", -3, 3}, {"&#x`;", -3, 3}, {"&#x@;", -3, 3},
        {"&#x/;", -3, 3}, {"&#x:;", -3, 3}, {"&#x4g;", -3, 4}, {"&#x41&", -3, 5}, {"&#xFFFFg;", -3, 7},
        {"&#0;", -9, 0}, {"x&#8;", -9, 1}, {"&#11;", -9, 0}, {"&#12;", -9, 0}, {"&#14;", -9, 0}, {"xyz&#31;", -9, 3},
        {"&#256;", -9, 0}, {"&#1000;", -9, 0}, {"&#x100;", -9, 0}, {"&#x1F;", -9, 0}, {"&#x0;", -9, 0},
        {"&#4294967361;", -9, 0}, {"&#18446744073709551681;", -9, 0}, {"&#x100000041;", -9, 0},
        {"&#x10000000000000041;", -9, 0}, {"&#2147483713;", -9, 0}, {"&#65;&#99999999999;", -9, 5},
        {"&#0;&", -9, 0}, {"&&#0;", -3, 1}, {"&#0", -3, 3}, {"&#999", -3, 5},
    };

    private static void declareFaults() {
        for (Object[] row : FAULTY) {
            Desk desk = new Desk();
            declares(desk, 'k', (String) row[0], (Integer) row[1], (Integer) row[2]);
            due(row[0] + ": entities", desk.count(0), 0);
            due(row[0] + ": characters", desk.count(1), 0);
            due(row[0] + ": text", desk.text(10, 0), -1);
            declares(desk, 'k', "later", 5, -1);
            due(row[0] + ": then", text(desk, 'k'), "later");
        }
        Desk desk = new Desk();
        String long0 = "&#" + "0".repeat(397);
        declares(desk, 'a', long0 + ";", -9, 0);
        declares(desk, 'a', long0, -3, 399);
        declares(desk, 'a', "&#" + "0".repeat(395) + "65;", 1, -1);
        declares(desk, 'b', "&#" + "9".repeat(397) + ";", -9, 0);
        declares(desk, 'b', "&#x" + "f".repeat(396) + ";", -9, 0);
    }

    private static void declareFirstCounts() {
        Desk desk = new Desk();
        declares(desk, 'c', "one", 3, -1);
        declares(desk, 'c', "two and more", -100, -1);
        due("first", text(desk, 'c'), "one");
        expands(desk, "&", 9, -3, 1);
        declares(desk, 'c', "&", -100, -1);
        declares(desk, 'c', "&#0;", -100, -1);
        declares(desk, 'c', "", -100, -1);
        declares(desk, 'e', "", 0, -1);
        declares(desk, 'e', "x", -100, -1);
        due("entities", desk.count(0), 2);
        due("characters", desk.count(1), 3);
    }

    private static void declareRoom() {
        Desk desk = new Desk();
        for (char name = 'a'; name <= 'd'; name++) {
            declares(desk, name, ("" + name).repeat(400), 400, -1);
        }
        declares(desk, 'e', "e".repeat(399), 399, -1);
        due("characters", desk.count(1), 1999);
        declares(desk, 'f', "fg", -101, -1);
        declares(desk, 'f', "f".repeat(400), -101, -1);
        declares(desk, 'f', "&a;", -101, -1);
        declares(desk, 'f', "ff&", -3, 3);
        declares(desk, 'f', "f".repeat(100) + "&#1;", -9, 100);
        declares(desk, 'a', "aaa", -100, -1);
        due("f", desk.text(5, 0), -1);
        due("entities", desk.count(0), 5);
        due("characters", desk.count(1), 1999);
        declares(desk, 'f', "&#x66;", 1, -1);
        due("characters", desk.count(1), 2000);
        declares(desk, 'g', "g", -101, -1);
        declares(desk, 'g', "", 0, -1);
        due("entities", desk.count(0), 7);
        due("characters", desk.count(1), 2000);
        for (char name = 'a'; name <= 'd'; name++) {
            textIsAll(desk, name, 400);
        }
        textIsAll(desk, 'e', 399);
        textIsAll(desk, 'f', 1);
        due("text g", text(desk, 'g'), "");
        expands(desk, "&e;&f;&g;", 400, 400, -1);
        due("given e", desk.given(398), 'e');
        due("given f", desk.given(399), 'f');
    }

    private static void declareRefuses() {
        Desk desk = new Desk();
        expands(desk, "ab&", 0, -3, 3);
        tell(desk, "stays");
        int[] names = {-1, 26, 97, Integer.MIN_VALUE, Integer.MAX_VALUE};
        for (int name : names) {
            due("declare(" + name + ")", desk.declare(name), -102);
            due("in hand", desk.count(3), 5);
            due("place", desk.place(), 3);
            due("entities", desk.count(0), 0);
        }
        due("declare it", desk.declare(25), 5);
        due("z", text(desk, 'z'), "stays");
    }

    private static void expandGives() {
        Desk desk = new Desk();
        expands(desk, "", 0, 0, -1);
        expands(desk, "plain; #x\u0000\u00ff", 0, 11, -1);
        due("plain", given(desk), "plain; #x\u0000\u00ff");
        declare(desk, 'a', "x&#65;y");
        declare(desk, 'b', "[&a;&a;]");
        declare(desk, 'c', "&b;");
        declare(desk, 'e', "");
        expands(desk, "&b;!", 100, 9, -1);
        due("nested", given(desk), "[xAyxAy]!");
        expands(desk, "<&c;&e;&a;&e;>", 100, 13, -1);
        due("nested", given(desk), "<[xAyxAy]xAy>");
        declare(desk, 'f', "&g;");
        expands(desk, "&f;", 100, -6, 0);
        declare(desk, 'g', "late");
        expands(desk, "&f;", 100, 4, -1);
        due("declared later", given(desk), "late");
    }

    private static void expandCharacterReferences() {
        Desk desk = new Desk();
        declare(desk, 'a', "text");
        expands(desk, "&#38;a;", 0, 3, -1);
        due("begins no reference", given(desk), "&a;");
        expands(desk, "&#38;#65;&#x26;", 0, 6, -1);
        due("begins no reference", given(desk), "&#65;&");
        expands(desk, "&#9;&#10;&#13;&#32;&#255;&#xff;&#x0FF;", 0, 7, -1);
        due("edges", given(desk), "\t\n\r \u00ff\u00ff\u00ff");
        declare(desk, 'b', "&#38;a;");
        expands(desk, "&b;", 7, 4, -1);
        due("comes to stand as a reference", given(desk), "text");
        declare(desk, 'c', "&#38;#38;a;");
        due("c", text(desk, 'c'), "&#38;a;");
        expands(desk, "&c;", 7, 3, -1);
        due("read once more, and no further", given(desk), "&a;");
        declare(desk, 'd', "&#38;&#97;&#59;");
        expands(desk, "&d;", 7, 4, -1);
        due("each part told by number", given(desk), "text");
        declare(desk, 'e', "&#38;#x&#52;1;");
        due("e", text(desk, 'e'), "&#x41;");
        expands(desk, "&e;", 7, 1, -1);
        due("e", given(desk), "A");
        for (int number = 0; number <= 300; number++) {
            boolean may = number == 9 || number == 10 || number == 13 || number >= 32 && number <= 255;
            expands(desk, "&#" + number + ";", 0, may ? 1 : -9, may ? -1 : 0);
            due("number " + number, desk.given(0), may ? number : -1);
            desk = number % 50 == 49 ? new Desk() : desk;
        }
    }

    private static void expandFaultsInHand() {
        for (Object[] row : FAULTY) {
            Desk desk = new Desk();
            expands(desk, (String) row[0], 9, (Integer) row[1], (Integer) row[2]);
            due(row[0] + ": given", given(desk), "");
            expands(desk, "then", 0, 4, -1);
            due(row[0] + ": then", given(desk), "then");
        }
    }

    private static void expandFaultsInTexts() {
        for (Object[] row : FAULTY) {
            String told = ((String) row[0]).replace("&", "&#38;");
            if (told.length() > 390) {
                continue;
            }
            boolean ends = (Integer) row[1] == -3 && (Integer) row[2] == ((String) row[0]).length();
            int want = ends ? -14 : (Integer) row[1];
            Desk desk = new Desk();
            declares(desk, 'k', told, ((String) row[0]).length(), -1);
            declare(desk, 'l', "ab&k;cd");
            declare(desk, 'e', "");
            expands(desk, "&k;", 99, want, 0);
            expands(desk, "ab&e;&k;;", 99, want, 5);
            expands(desk, "x&#65;&l;", 99, want, 6);
            due(row[0] + ": given", given(desk), "");
            due(row[0] + ": put in", desk.count(4), 2);
            expands(desk, "&e;then", 0, 4, -1);
        }
        Desk desk = new Desk();
        declare(desk, 'b', "&#38;b");
        expands(desk, "&b;;", 99, -14, 0);
        declare(desk, 'n', "xx&y;");
        expands(desk, "abc&n;", 99, -6, 3);
    }

    private static void expandRings() {
        Desk desk = new Desk();
        declare(desk, 'a', "&a;");
        declare(desk, 'b', "-&c;");
        declare(desk, 'c', "-&d;");
        declare(desk, 'd', "-&b;");
        declare(desk, 'e', "&f;&f;&f;");
        declare(desk, 'f', "f");
        declare(desk, 'g', "&e;&b;");
        expands(desk, ".&a;", 9, -7, 1);
        due("ring: put in", desk.count(4), 1);
        due("ring: meter", desk.count(2), 3);
        expands(desk, "..&b;", 99, -7, 2);
        due("ring: put in", desk.count(4), 3);
        due("ring: deep", desk.count(5), 3);
        expands(desk, "&e;&f;&e;", 99, 7, -1);
        due("no ring: put in", desk.count(4), 9);
        expands(desk, "&e;&g;", 99, -7, 3);
        expands(desk, "&e;&e;", 99, 6, -1);
        expands(desk, "&d;", 99, -7, 0);
        expands(desk, "&c;", 99, -7, 0);
    }

    private static void expandDepth() {
        Desk desk = chain(14, ".");
        expands(desk, "<&c;>", 999, 3, -1);
        due("12 deep", desk.count(5), 12);
        due("12 put in", desk.count(4), 12);
        due("meter", desk.count(2), 34);
        expands(desk, "<&b;>", 999, -16, 1);
        due("13 deep: deepest", desk.count(5), 12);
        due("13 deep: put in", desk.count(4), 12);
        due("13 deep: meter", desk.count(2), 36);
        due("13 deep: given", desk.given(0), -1);
        expands(desk, "&n;&a;", 999, -16, 3);
        expands(desk, "&n;&m;&c;&d;", 999, 4, -1);
        due("deepest of several", desk.count(5), 12);
        expands(desk, "&n;", 999, 1, -1);
        due("1 deep", desk.count(5), 1);
        expands(desk, "none", 999, 4, -1);
        due("0 deep", desk.count(5), 0);
    }

    private static void expandMeter() {
        Desk desk = new Desk();
        declare(desk, 'a', "abc");
        declare(desk, 'b', "[&a;&a;]");
        declare(desk, 'e', "");
        expands(desk, "&e;", 0, 0, -1);
        due("nothing is put in once", desk.count(4), 1);
        expands(desk, "xyz&a;", 2, -15, 3);
        due("meter stays below", desk.count(2), 0);
        due("not put in", desk.count(4), 0);
        due("not deep", desk.count(5), 0);
        expands(desk, "xyz&a;", 3, 6, -1);
        due("meter", desk.count(2), 3);
        expands(desk, ".&b;", 14, 9, -1);
        due("meter", desk.count(2), 14);
        expands(desk, ".&b;", 13, -15, 1);
        due("meter behind the fault", desk.count(2), 11);
        due("put in before the fault", desk.count(4), 2);
        due("deepest before the fault", desk.count(5), 2);
        expands(desk, "&b;&b;", 27, -15, 3);
        due("meter of both", desk.count(2), 25);
        expands(desk, "&b;&b;", 28, 16, -1);
        expands(desk, "&#65;", 0, 1, -1);
        due("characters are not metered", desk.count(2), 0);
        expands(desk, "&b;", 7, -15, 0);
        due("before it is gone over", desk.count(2), 0);
        meterUpToItsHighest();
    }

    private static void meterUpToItsHighest() {
        Desk desk = new Desk();
        declare(desk, 'e', "");
        declare(desk, 'a', "&e;".repeat(133));
        declare(desk, 'b', "&a;".repeat(133));
        declare(desk, 'c', "&b;");
        expands(desk, "&b;", 100000, 0, -1);
        due("meter", desk.count(2), 399 + 133 * 399);
        due("put in", desk.count(4), 1 + 133 + 133 * 133);
        expands(desk, "-&b;-&c;", 100000, -15, 5);
        due("meter", desk.count(2), 399 + 133 * 399 + 3 + 399 + 115 * 399);
        expands(desk, "&a;", 399, 0, -1);
        expands(desk, "&a;", 398, -15, 0);
    }

    private static void expandMostGiven() {
        Desk desk = new Desk();
        declare(desk, 'a', "a".repeat(375));
        declare(desk, 'b', "&a;".repeat(8));
        declare(desk, 'c', "&b;.");
        declare(desk, 'd', "&b;&#38;#65;");
        declare(desk, 'e', "");
        declare(desk, 'f', "&b;&e;");
        declare(desk, 'g', "&b;&#38;#1;");
        declare(desk, 'h', "&b;&#38;;");
        expands(desk, "&b;", 100000, 3000, -1);
        due("last given", desk.given(2999), 'a');
        due("behind it", desk.given(3000), -1);
        expands(desk, "&b;.", 100000, -16, 3);
        due("none given", desk.given(0), -1);
        expands(desk, ".&b;", 100000, -16, 1);
        expands(desk, "&b;&#65;", 100000, -16, 3);
        expands(desk, "&e;&c;", 100000, -16, 3);
        expands(desk, "&e;&d;", 100000, -16, 3);
        expands(desk, "&f;&e;", 100000, 3000, -1);
        expands(desk, "&b;&e;&a;", 100000, -16, 6);
        due("it was put in", desk.count(4), 11);
        expands(desk, "&b;&#1;.", 100000, -9, 3);
        expands(desk, "&b;&;.", 100000, -3, 4);
        expands(desk, "&b;&#65", 100000, -3, 7);
        expands(desk, "&b;&z;.", 100000, -6, 3);
        expands(desk, "&g;", 100000, -9, 0);
        expands(desk, "&h;", 100000, -3, 0);
    }

    private static void expandOrderOfFaults() {
        Desk desk = chain(12, ".");
        expands(desk, "&z;", 0, -6, 0);
        declare(desk, 'z', "&z;");
        expands(desk, "&z;", 3, -7, 0);
        declare(desk, 'y', "yy");
        expands(desk, "&y;&z;", 1, -15, 0);
        expands(desk, "&", 0, -3, 1);

        desk = chain(12, "&y;");
        expands(desk, "&a;", 36, -6, 0);
        declare(desk, 'y', "y");
        expands(desk, "&a;", 36, -16, 0);
        expands(desk, "&a;", 35, -15, 0);
        expands(desk, "&b;", 33, -15, 0);
        expands(desk, "&b;", 34, 1, -1);

        desk = chain(12, "&a;");
        expands(desk, "&a;", 36, -7, 0);
        expands(desk, "&#0;&a;", 36, -9, 0);
        expands(desk, "&a;&#0;", 36, -7, 0);
    }

    private static void expandRefuses() {
        Desk desk = new Desk();
        declare(desk, 'a', "abc");
        expands(desk, "..&a;", 9, 5, -1);
        declares(desk, 'b', "ab&", -3, 3);
        tell(desk, "&a;");
        int[] limits = {-1, 100001, Integer.MIN_VALUE, Integer.MAX_VALUE};
        for (int limit : limits) {
            due("expand(" + limit + ")", desk.expand(limit), -102);
            due("in hand", desk.count(3), 3);
            due("place", desk.place(), 3);
            due("given", given(desk), "..abc");
            due("meter", desk.count(2), 3);
            due("put in", desk.count(4), 1);
            due("deepest", desk.count(5), 1);
        }
        due("expand it", desk.expand(100000), 3);
        due("given", given(desk), "abc");
        expands(desk, "x", 0, 1, -1);
    }

    private static void placeOfTheLast() {
        Desk desk = new Desk();
        expands(desk, "1234&", 9, -3, 5);
        desk.put(65L, 1);
        desk.put(65L, 9);
        desk.count(0);
        desk.given(0);
        desk.text(0, 0);
        due("place stays", desk.place(), 5);
        due("place stays", desk.place(), 5);
        desk.declare(0);
        due("place of a declare without one", desk.place(), -1);
        declares(desk, 'b', "12&#0;", -9, 2);
        declares(desk, 'a', "&#0;", -100, -1);
        expands(desk, "&q;", 9, -6, 0);
        expands(desk, "&a;", 9, 1, -1);
    }

    private static void givenOfTheLast() {
        Desk desk = new Desk();
        expands(desk, "abc", 9, 3, -1);
        int[] none = {-1, 3, 2999, 3000, Integer.MIN_VALUE, Integer.MAX_VALUE};
        for (int i : none) {
            due("given(" + i + ")", desk.given(i), -1);
        }
        declares(desk, 'a', "other", 5, -1);
        declares(desk, 'b', "&", -3, 1);
        tell(desk, "d");
        due("stays", given(desk), "abc");
        due("one character", desk.expand(0), 1);
        due("the last", given(desk), "d");
        expands(desk, "efgh&", 9, -3, 5);
        due("none with a fault", given(desk), "");
        expands(desk, "ij", 9, 2, -1);
        expands(desk, "", 9, 0, -1);
        due("nothing", given(desk), "");
        expands(desk, "\u0000\u00ff", 9, 2, -1);
        due("lowest", desk.given(0), 0);
        due("highest", desk.given(1), 255);
    }

    private static void textOfEntities() {
        Desk desk = new Desk();
        declare(desk, 'a', "ab");
        declare(desk, 'z', "\u0000\u00ffz");
        declare(desk, 'm', "");
        due("a 0", desk.text(0, 0), 'a');
        due("a 1", desk.text(0, 1), 'b');
        due("z 0", desk.text(25, 0), 0);
        due("z 1", desk.text(25, 1), 255);
        due("z 2", desk.text(25, 2), 'z');
        int[] none = {-1, 2, 3, 2000, Integer.MIN_VALUE, Integer.MAX_VALUE};
        for (int i : none) {
            due("a " + i, desk.text(0, i), -1);
            due("b " + i, desk.text(1, i), -1);
        }
        int[] names = {-1, 26, 97, Integer.MIN_VALUE, Integer.MAX_VALUE};
        for (int name : names) {
            due("text(" + name + ", 0)", desk.text(name, 0), -1);
            due("text(" + name + ", -1)", desk.text(name, -1), -1);
        }
        due("z behind", desk.text(25, 3), -1);
        due("m 0", desk.text(12, 0), -1);
        due("m -1", desk.text(12, -1), -1);
    }

    private static void counts() {
        Desk desk = new Desk();
        declare(desk, 'a', "&#65;bc");
        declare(desk, 'b', "&a;&a;");
        tell(desk, "&b;-&a;");
        due("in hand", desk.count(3), 7);
        desk.expand(50);
        due("entities", desk.count(0), 2);
        due("characters", desk.count(1), 9);
        due("meter", desk.count(2), 15);
        due("in hand", desk.count(3), 0);
        due("put in", desk.count(4), 4);
        due("deepest", desk.count(5), 2);
        declare(desk, 'c', "&a;&");
        declare(desk, 'd', "d");
        due("entities", desk.count(0), 3);
        due("characters", desk.count(1), 10);
        due("meter stays", desk.count(2), 15);
        due("put in stays", desk.count(4), 4);
        due("deepest stays", desk.count(5), 2);
        expands(desk, "&d;&b;&", 50, -3, 7);
        due("meter with a fault", desk.count(2), 13);
        due("put in with a fault", desk.count(4), 4);
        due("deepest with a fault", desk.count(5), 2);
        expands(desk, "", 50, 0, -1);
        due("meter of nothing", desk.count(2), 0);
        due("put in of nothing", desk.count(4), 0);
        due("deepest of nothing", desk.count(5), 0);
        int[] others = {-1, 6, 7, 100, Integer.MIN_VALUE, Integer.MAX_VALUE};
        for (int what : others) {
            due("count(" + what + ")", desk.count(what), -1);
        }
    }

    private static void objectsAreApart() {
        Desk one = new Desk();
        Desk other = new Desk();
        declare(one, 'a', "one");
        tell(one, "left");
        declares(other, 'a', "other", 5, -1);
        due("one", text(one, 'a'), "one");
        due("other", text(other, 'a'), "other");
        due("one in hand", one.count(3), 4);
        due("other in hand", other.count(3), 0);
    }
}
