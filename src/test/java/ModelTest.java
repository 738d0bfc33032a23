import java.math.BigInteger;
import java.util.ArrayDeque;
import java.util.Deque;
import java.util.HashMap;
import java.util.Map;
import java.util.TreeMap;
import java.util.regex.Matcher;
import java.util.regex.Pattern;

/** Runs of calls, the same at every start, against the document written once more in another way. */
public final class ModelTest {
    private static final int RUNS = 6000;
    private static final int MOST_CALLS = 512;
    /** What a round of a run calls beside its puts, and a little more. */
    private static final int CALLS_OF_A_ROUND = 20;

    /** The document once more, with texts as Strings and references as patterns. */
    private static final class Model {
        private static final Pattern WHOLE = Pattern.compile("&(?:([a-z])|#([0-9]+)|#x([0-9a-fA-F]+));");
        private static final Pattern BEGUN = Pattern.compile("&(?:[a-z]|#(?:[0-9]+|x[0-9a-fA-F]*)?)?");

        private static final class Fault extends Exception {
            private static final long serialVersionUID = 1L;
            final int number;
            final int at;

            Fault(int number, int at) {
                this.number = number;
                this.at = at;
            }
        }

        String hand = "";
        String out = "";
        int place = -1;
        int meter = 0;
        int putIn = 0;
        int deepest = 0;
        final Map<Integer, String> texts = new HashMap<>();

        boolean put(long v, int n) {
            if (n < 1 || n > 8 || hand.length() + n > 400) {
                return false;
            }
            StringBuilder bytes = new StringBuilder();
            for (int i = 0; i < n; i++) {
                bytes.insert(0, (char) (v & 0xff));
                v >>= 8;
            }
            hand += bytes;
            return true;
        }

        int characters() {
            return texts.values().stream().mapToInt(String::length).sum();
        }

        int declare(int name) {
            if (name < 0 || name > 25) {
                return -102;
            }
            String told = hand;
            hand = "";
            place = -1;
            if (texts.containsKey(name)) {
                return -100;
            }
            String text;
            try {
                text = withCharacters(told);
            } catch (Fault fault) {
                place = fault.at;
                return -1 - fault.number;
            }
            if (characters() + text.length() > 2000) {
                return -101;
            }
            texts.put(name, text);
            return text.length();
        }

        private static Matcher reference(String text, int at) throws Fault {
            Matcher whole = WHOLE.matcher(text).region(at, text.length());
            if (whole.lookingAt()) {
                return whole;
            }
            Matcher begun = BEGUN.matcher(text).region(at, text.length());
            if (!begun.lookingAt()) {
                throw new IllegalStateException();
            }
            throw new Fault(2, begun.end());
        }

        private static char character(Matcher reference) throws Fault {
            BigInteger number = reference.group(2) != null
                ? new BigInteger(reference.group(2)) : new BigInteger(reference.group(3), 16);
            int low = number.min(BigInteger.valueOf(1000)).intValue();
            if (low > 255 || low < 32 && "\t\n\r".indexOf(low) < 0) {
                throw new Fault(8, reference.start());
            }
            return (char) low;
        }

        private static String withCharacters(String told) throws Fault {
            StringBuilder text = new StringBuilder();
            int at = 0;
            while (at < told.length()) {
                if (told.charAt(at) != '&') {
                    text.append(told.charAt(at++));
                    continue;
                }
                Matcher reference = reference(told, at);
                text.append(reference.group(1) != null ? reference.group() : "" + character(reference));
                at = reference.end();
            }
            return text.toString();
        }

        int expand(int limit) {
            if (limit < 0 || limit > 100000) {
                return -102;
            }
            String told = hand;
            hand = "";
            place = -1;
            meter = 0;
            putIn = 0;
            deepest = 0;
            StringBuilder all = new StringBuilder();
            out = "";
            try {
                together(told, limit, new ArrayDeque<>(), all);
            } catch (Fault fault) {
                place = fault.at;
                return -1 - fault.number;
            }
            out = all.toString();
            return out.length();
        }

        private void together(String text, int limit, Deque<Integer> round, StringBuilder all) throws Fault {
            int at = 0;
            while (at < text.length()) {
                if (text.charAt(at) != '&') {
                    give(text.charAt(at), at, all);
                    at++;
                    continue;
                }
                Matcher reference = reference(text, at);
                if (reference.group(1) == null) {
                    give(character(reference), at, all);
                } else {
                    putIn(reference.group(1).charAt(0) - 'a', at, limit, round, all);
                }
                at = reference.end();
            }
        }

        private static void give(char character, int at, StringBuilder all) throws Fault {
            if (all.length() == 3000) {
                throw new Fault(15, at);
            }
            all.append(character);
        }

        private void putIn(int name, int at, int limit, Deque<Integer> round, StringBuilder all) throws Fault {
            String text = texts.get(name);
            if (text == null) {
                throw new Fault(5, at);
            }
            if (round.contains(name)) {
                throw new Fault(6, at);
            }
            if (round.size() == 12) {
                throw new Fault(15, at);
            }
            if (meter + text.length() > limit) {
                throw new Fault(14, at);
            }
            meter += text.length();
            putIn++;
            round.push(name);
            deepest = Math.max(deepest, round.size());
            try {
                together(text, limit, round, all);
            } catch (Fault fault) {
                boolean ended = fault.number == 2 && fault.at == text.length();
                throw new Fault(ended ? 13 : fault.number, at);
            }
            round.pop();
        }

        int given(int i) {
            return i >= 0 && i < out.length() ? out.charAt(i) : -1;
        }

        int text(int name, int i) {
            String text = texts.getOrDefault(name, "");
            return i >= 0 && i < text.length() ? text.charAt(i) : -1;
        }

        int count(int what) {
            int[] all = {texts.size(), characters(), meter, hand.length(), putIn, deepest};
            return what >= 0 && what < all.length ? all[what] : -1;
        }
    }

    /** A row of numbers that is the same at every start. */
    private static final class Dice {
        private long state;

        Dice(long seed) {
            state = seed * 0x9E3779B97F4A7C15L + 0x1234567L;
        }

        int below(int bound) {
            state = state * 6364136223846793005L + 1442695040888963407L;
            return (int) Math.floorMod(state >>> 33, (long) bound);
        }

        boolean oneIn(int bound) {
            return below(bound) == 0;
        }
    }

    private static final class Run {
        private final int number;
        private final Dice dice;
        private final EntityDesk desk = new EntityDesk();
        private final Model model = new Model();
        private final Map<String, Integer> met;
        private final int kind;
        private int calls = 0;
        private int wrong = 0;

        Run(int number, Map<String, Integer> met) {
            this.number = number;
            this.dice = new Dice(number);
            this.met = met;
            this.kind = number % 5;
        }

        void due(String call, int got, int want) {
            calls++;
            if (got != want) {
                wrong++;
                System.out.println("run " + number + ", call " + calls + ": " + call
                    + " answered " + got + ", due is " + want);
            }
        }

        boolean goesOn() {
            return calls < MOST_CALLS - CALLS_OF_A_ROUND && wrong == 0;
        }

        int name() {
            if (kind == 3 && dice.below(5) > 0) {
                return model.texts.size();
            }
            int names = kind == 0 ? 4 : kind == 2 ? 6 : 26;
            return dice.oneIn(60) ? dice.below(40) - 7 : dice.below(names);
        }

        char letter() {
            return (char) ('a' + Math.floorMod(name(), 26));
        }

        String wellFormed() {
            switch (dice.below(7)) {
                case 0:
                    return "&#" + "0".repeat(dice.below(3)) + (32 + dice.below(224)) + ";";
                case 1:
                    return "&#x" + Integer.toHexString(32 + dice.below(224)) + ";";
                case 2:
                    return "&#38;";
                case 3:
                    return "&#38;" + letter() + ";";
                default:
                    return "&" + letter() + ";";
            }
        }

        String rough() {
            String marks = "&&&;;##xXaAfFgz019 \u0000\u00ff";
            StringBuilder all = new StringBuilder();
            for (int left = dice.below(4) + 1; left > 0; left--) {
                all.append(marks.charAt(dice.below(marks.length())));
            }
            return all.toString();
        }

        String piece() {
            if (dice.oneIn(kind == 0 ? 20 : 120)) {
                return rough();
            }
            if (dice.oneIn(60)) {
                return "&#" + dice.below(300) + ";";
            }
            if (dice.oneIn(200)) {
                return "&#x" + Long.toHexString(0x100000000L + dice.below(300)) + ";";
            }
            if (dice.oneIn(80)) {
                return "&#38;" + rough();
            }
            return dice.below(3) == 0 ? "" + (char) dice.below(256) : wellFormed();
        }

        String told(int name) {
            StringBuilder all = new StringBuilder();
            if (kind == 2 && dice.below(3) > 0) {
                return dice.oneIn(3) ? "x".repeat(300 + dice.below(110))
                    : ("&" + letter() + ";").repeat(dice.below(20) + 1) + "y".repeat(dice.below(30));
            }
            if (kind == 3 && dice.below(4) > 0) {
                return "-".repeat(dice.below(2)) + "&" + (char) ('a' + Math.floorMod(name + 1, 26)) + ";";
            }
            if (kind == 4 && !model.texts.containsKey(name) && dice.below(4) > 0) {
                return "z".repeat(350 + dice.below(45)) + (dice.oneIn(2) ? "" : piece());
            }
            for (int left = dice.below(6); left > 0; left--) {
                all.append(piece());
            }
            return all.toString();
        }

        void tell(String text) {
            int from = 0;
            while (from < text.length() && goesOn()) {
                int n = Math.min(text.length() - from, kind < 4 && dice.oneIn(3) ? dice.below(8) + 1 : 8);
                long v = dice.below(1 << 30);
                for (int i = from; i < from + n; i++) {
                    v = v << 8 | text.charAt(i);
                }
                due("put(" + v + ", " + n + ")", desk.put(v, n) ? 1 : 0, model.put(v, n) ? 1 : 0);
                from += n;
            }
        }

        void note(String call, int answer) {
            met.merge(call + " " + (answer < 0 ? "" + answer : "well"), 1, Integer::sum);
        }

        void declareOne() {
            int name = name();
            tell(told(name));
            int want = model.declare(name);
            due("declare(" + name + ")", desk.declare(name), want);
            note("declare", want);
            due("place()", desk.place(), model.place);
        }

        void expandOne() {
            tell(kind == 4 ? piece() : kind == 3 ? "&" + (char) ('a' + dice.below(4)) + ";" : told(dice.below(26)));
            int limit = dice.oneIn(40) ? dice.oneIn(2) ? -1 - dice.below(9) : 100001 + dice.below(9)
                : dice.oneIn(3) ? dice.below(60) : dice.oneIn(3) ? dice.below(3000) : 100000;
            int want = model.expand(limit);
            due("expand(" + limit + ")", desk.expand(limit), want);
            note("expand", want);
            due("place()", desk.place(), model.place);
            for (int left = 4; left > 0; left--) {
                int i = dice.below(model.out.length() + 2) - 1;
                due("given(" + i + ")", desk.given(i), model.given(i));
            }
        }

        void lookAround() {
            int name = name();
            int i = dice.below(model.texts.getOrDefault(name, "").length() + 2) - 1;
            due("text(" + name + ", " + i + ")", desk.text(name, i), model.text(name, i));
            for (int what = -1; what <= 6; what++) {
                due("count(" + what + ")", desk.count(what), model.count(what));
            }
            int n = dice.oneIn(2) ? -dice.below(9) : 9 + dice.below(9);
            due("put(65, " + n + ")", desk.put(65L, n) ? 1 : 0, model.put(65L, n) ? 1 : 0);
        }

        int play() {
            while (goesOn()) {
                if (dice.oneIn(2)) {
                    declareOne();
                } else {
                    expandOne();
                }
                if (dice.oneIn(2)) {
                    lookAround();
                }
            }
            return wrong;
        }
    }

    public static void main(String[] args) {
        Map<String, Integer> met = new TreeMap<>();
        int wrong = 0;
        for (int number = 0; number < RUNS && wrong < 20; number++) {
            wrong += new Run(number, met).play();
        }
        String[] dueToBeMet = {
            "declare well", "declare -3", "declare -9", "declare -100", "declare -101", "declare -102",
            "expand well", "expand -3", "expand -6", "expand -7", "expand -9", "expand -14", "expand -15",
            "expand -16", "expand -102",
        };
        for (String one : dueToBeMet) {
            if (met.getOrDefault(one, 0) < 100) {
                wrong++;
                System.out.println(one + " was met too seldom: " + met.getOrDefault(one, 0));
            }
        }
        System.out.println(wrong == 0 ? "all answers are as due: " + met : wrong + " things are not as due");
        if (wrong != 0) {
            System.exit(1);
        }
    }
}
