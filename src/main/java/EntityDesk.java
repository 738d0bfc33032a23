/** Entities with texts that have references to characters and to each other. */
public final class EntityDesk {
    private static final int MOST_IN_HAND = 400;
    private static final int MOST_AT_ONCE = 8;
    private static final int MOST_IN_TEXTS = 2000;
    private static final int MOST_GIVEN = 3000;
    private static final int MOST_DEEP = 12;
    private static final int HIGHEST_LIMIT = 100000;
    private static final int NAMES = 26;

    private static final int NO_FAULT = 0;
    private static final int BROKEN_REFERENCE = 2;
    private static final int NO_ENTITY = 5;
    private static final int RING = 6;
    private static final int NO_CHARACTER = 8;
    private static final int TEXT_ENDS_WITHIN = 13;
    private static final int METER = 14;
    private static final int TOO_MUCH = 15;

    private static final int NONE = -1;
    private static final int HAS_ONE = -100;
    private static final int NO_ROOM = -101;
    private static final int REFUSED = -102;

    private final int[] hand;
    private int inHand;
    private final Entities entities;
    private final Reader reader;

    private int fault;
    private int faultPlace;
    /** Where in the text in hand the character or reference stands that is being read. */
    private int outerPlace;

    private final int[] output;
    private int outputLength;
    private final boolean[] open;
    private int meterLimit;
    private int meter;
    private int putIn;
    private int deepest;

    public EntityDesk() {
        hand = new int[MOST_IN_HAND];
        inHand = 0;
        entities = new Entities();
        reader = new Reader();
        fault = NO_FAULT;
        faultPlace = NONE;
        outerPlace = 0;
        output = new int[MOST_GIVEN];
        outputLength = 0;
        open = new boolean[NAMES];
        meterLimit = 0;
        meter = 0;
        putIn = 0;
        deepest = 0;
    }

    public boolean put(long v, int n) {
        if (n < 1 || n > MOST_AT_ONCE || inHand + n > MOST_IN_HAND) {
            return false;
        }
        for (int left = n - 1; left >= 0; left--) {
            hand[inHand] = (int) (v >>> (8 * left)) & 255;
            inHand++;
        }
        return true;
    }

    public int declare(int name) {
        if (!isName(name)) {
            return REFUSED;
        }
        int told = inHand;
        inHand = 0;
        beginReading();
        if (entities.has(name)) {
            return HAS_ONE;
        }
        draftText(told);
        if (fault != NO_FAULT) {
            return -1 - fault;
        }
        if (!entities.draftFits()) {
            return NO_ROOM;
        }
        entities.keepDraft(name);
        return entities.lengthOf(name);
    }

    public int expand(int limit) {
        if (limit < 0 || limit > HIGHEST_LIMIT) {
            return REFUSED;
        }
        int told = inHand;
        inHand = 0;
        beginReading();
        outputLength = 0;
        meterLimit = limit;
        meter = 0;
        putIn = 0;
        deepest = 0;
        goOver(hand, 0, told, 0);
        if (fault != NO_FAULT) {
            outputLength = 0;
            return -1 - fault;
        }
        return outputLength;
    }

    public int place() {
        return faultPlace;
    }

    public int given(int i) {
        return i >= 0 && i < outputLength ? output[i] : NONE;
    }

    public int text(int name, int i) {
        if (!isName(name) || !entities.has(name)) {
            return NONE;
        }
        return i >= 0 && i < entities.lengthOf(name) ? entities.characterOf(name, i) : NONE;
    }

    public int count(int what) {
        switch (what) {
            case 0:
                return entities.declared;
            case 1:
                return entities.kept;
            case 2:
                return meter;
            case 3:
                return inHand;
            case 4:
                return putIn;
            case 5:
                return deepest;
            default:
                return NONE;
        }
    }

    private static boolean isName(int name) {
        return name >= 0 && name < NAMES;
    }

    private void beginReading() {
        fault = NO_FAULT;
        faultPlace = NONE;
        outerPlace = 0;
        reader.begin();
    }

    private void fail(int what, int where) {
        fault = what;
        faultPlace = where;
    }

    /** Reads one character more: what it comes to; a reference that is wrong in itself is a fault. */
    private int readOn(int character, int at) {
        int what = reader.read(character);
        if (what == Reader.BROKEN) {
            fail(BROKEN_REFERENCE, at);
        } else if (what == Reader.FORBIDDEN) {
            fail(NO_CHARACTER, outerPlace);
        }
        return what;
    }

    private void draftText(int told) {
        entities.beginDraft();
        for (int i = 0; i < told && fault == NO_FAULT; i++) {
            if (!reader.isWithin()) {
                outerPlace = i;
            }
            draftCharacter(hand[i], i);
        }
        if (fault == NO_FAULT && reader.isWithin()) {
            fail(BROKEN_REFERENCE, told);
        }
    }

    private void draftCharacter(int character, int at) {
        int what = readOn(character, at);
        if (what == Reader.ITSELF) {
            entities.draft(character);
        } else if (what == Reader.CHARACTER) {
            entities.draft(reader.number);
        } else if (what == Reader.ENTITY) {
            entities.draft('&');
            entities.draft('a' + reader.name);
            entities.draft(';');
        }
    }

    /** Puts together row[from .. to - 1], which stands in depth entities' texts. */
    private void goOver(int[] row, int from, int to, int depth) {
        for (int i = from; i < to && fault == NO_FAULT; i++) {
            if (depth == 0 && !reader.isWithin()) {
                outerPlace = i;
            }
            goOverCharacter(row[i], depth == 0 ? i : outerPlace, depth);
        }
        if (fault == NO_FAULT && reader.isWithin()) {
            if (depth == 0) {
                fail(BROKEN_REFERENCE, to);
            } else {
                fail(TEXT_ENDS_WITHIN, outerPlace);
            }
        }
    }

    private void goOverCharacter(int character, int at, int depth) {
        int what = readOn(character, at);
        if (what == Reader.ITSELF) {
            give(character);
        } else if (what == Reader.CHARACTER) {
            give(reader.number);
        } else if (what == Reader.ENTITY) {
            goInto(reader.name, depth + 1);
        }
    }

    private void give(int character) {
        if (outputLength >= MOST_GIVEN) {
            fail(TOO_MUCH, outerPlace);
            return;
        }
        output[outputLength] = character;
        outputLength++;
    }

    private void goInto(int name, int depth) {
        int wrong = faultOfEntity(name, depth);
        if (wrong != NO_FAULT) {
            fail(wrong, outerPlace);
            return;
        }
        meter += entities.lengthOf(name);
        putIn++;
        deepest = Math.max(deepest, depth);
        open[name] = true;
        int from = entities.startOf(name);
        goOver(entities.row, from, from + entities.lengthOf(name), depth);
        open[name] = false;
    }

    private int faultOfEntity(int name, int depth) {
        if (!entities.has(name)) {
            return NO_ENTITY;
        }
        if (open[name]) {
            return RING;
        }
        if (depth > MOST_DEEP) {
            return TOO_MUCH;
        }
        return meter + entities.lengthOf(name) > meterLimit ? METER : NO_FAULT;
    }

    /** All entities' texts, one behind the other in one row, and a draft behind the last. */
    private static final class Entities {
        private final int[] row;
        private final int[] starts;
        private final int[] lengths;
        private int declared;
        private int kept;
        private int drafted;

        private Entities() {
            row = new int[MOST_IN_TEXTS];
            starts = new int[NAMES];
            lengths = new int[NAMES];
            for (int name = 0; name < NAMES; name++) {
                lengths[name] = NONE;
            }
            declared = 0;
            kept = 0;
            drafted = 0;
        }

        private boolean has(int name) {
            return lengths[name] != NONE;
        }

        private int startOf(int name) {
            return starts[name];
        }

        private int lengthOf(int name) {
            return lengths[name];
        }

        private int characterOf(int name, int i) {
            return row[starts[name] + i];
        }

        private void beginDraft() {
            drafted = 0;
        }

        /** Counts on where there is no room: a fault further on comes before the lack of room. */
        private void draft(int character) {
            if (kept + drafted < MOST_IN_TEXTS) {
                row[kept + drafted] = character;
            }
            drafted++;
        }

        private boolean draftFits() {
            return kept + drafted <= MOST_IN_TEXTS;
        }

        private void keepDraft(int name) {
            starts[name] = kept;
            lengths[name] = drafted;
            kept += drafted;
            declared++;
        }
    }

    /** Reads a text character by character and tells where references end or break. */
    private static final class Reader {
        private static final int ITSELF = 0;
        private static final int GOES_ON = 1;
        private static final int CHARACTER = 2;
        private static final int ENTITY = 3;
        private static final int FORBIDDEN = 4;
        private static final int BROKEN = 5;

        private static final int OUTSIDE = 0;
        private static final int BEHIND_AMPERSAND = 1;
        private static final int BEHIND_NAME = 2;
        private static final int BEHIND_HASH = 3;
        private static final int IN_DECIMAL = 4;
        private static final int BEHIND_X = 5;
        private static final int IN_HEX = 6;

        /** Numbers stop growing here, so that no run of digits wraps round into a character. */
        private static final int ABOVE_ALL_CHARACTERS = 256;

        private int state;
        private int name;
        private int number;

        private Reader() {
            state = OUTSIDE;
            name = 0;
            number = 0;
        }

        private void begin() {
            state = OUTSIDE;
        }

        private boolean isWithin() {
            return state != OUTSIDE;
        }

        private int read(int character) {
            switch (state) {
                case BEHIND_AMPERSAND:
                    return readBehindAmpersand(character);
                case BEHIND_NAME:
                    return character == ';' ? finish(ENTITY) : BROKEN;
                case BEHIND_HASH:
                    return character == 'x' ? goOn(BEHIND_X) : readDigit(character, 10, IN_DECIMAL);
                case IN_DECIMAL:
                    return character == ';' ? finishNumber() : readDigit(character, 10, IN_DECIMAL);
                case BEHIND_X:
                    return readDigit(character, 16, IN_HEX);
                case IN_HEX:
                    return character == ';' ? finishNumber() : readDigit(character, 16, IN_HEX);
                default:
                    return character == '&' ? goOn(BEHIND_AMPERSAND) : ITSELF;
            }
        }

        private int readBehindAmpersand(int character) {
            if (character == '#') {
                number = 0;
                return goOn(BEHIND_HASH);
            }
            if (character >= 'a' && character <= 'z') {
                name = character - 'a';
                return goOn(BEHIND_NAME);
            }
            return BROKEN;
        }

        private int readDigit(int character, int base, int next) {
            int digit = valueOf(character);
            if (digit < 0 || digit >= base) {
                return BROKEN;
            }
            number = Math.min(number * base + digit, ABOVE_ALL_CHARACTERS);
            return goOn(next);
        }

        private static int valueOf(int character) {
            if (character >= '0' && character <= '9') {
                return character - '0';
            }
            if (character >= 'a' && character <= 'f') {
                return character - 'a' + 10;
            }
            if (character >= 'A' && character <= 'F') {
                return character - 'A' + 10;
            }
            return NONE;
        }

        private static boolean mayBe(int character) {
            return character == 9 || character == 10 || character == 13
                || character >= 32 && character <= 255;
        }

        private int finishNumber() {
            return finish(mayBe(number) ? CHARACTER : FORBIDDEN);
        }

        private int goOn(int next) {
            state = next;
            return GOES_ON;
        }

        private int finish(int what) {
            state = OUTSIDE;
            return what;
        }
    }
}
