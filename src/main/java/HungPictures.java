/** Pictures hung on a wall by a middle line. README.md says how to use it. */
public final class HungPictures {
    public static final int BAD = -1, STATE = -2, FULL = -3, NONE = -9;
    public static final int NO = -1000000;

    private static final int LETTER_LIMIT = 120;
    private static final int PICTURE_LIMIT = 5;
    private static final int DOOR_LIMIT = 3;
    private static final int HOLE_LIMIT = 16;
    private static final int UNDO_LIMIT = 6;
    private static final int SEEN_LIMIT = 6;
    private static final int IMAGE_LIMIT = 2;
    private static final int LEAST_WIDTH = 10, GREATEST_WIDTH = 40, FIRST_WIDTH = 20;
    private static final int LEAST_LINE = 5, GREATEST_LINE = 20, FIRST_LINE = 10;
    private static final int GREATEST_GAP = 9, GREATEST_ROW_GAP = 20;
    private static final int GREATEST_SIZE = 9, GREATEST_WEIGHT = 9;
    private static final int GREATEST_HOLE_X = 80, GREATEST_HOLE_Y = 60;

    private final int[] text;
    private int letters;
    private final Reader reader;
    private final Wall wall;
    private final Wall draft;
    private final Past past;
    private final Row row;
    private boolean rowKnown;
    private final Crowd crowd;
    private final Sights sights;
    private final Wall[] images;
    private final boolean[] imageKept;

    public HungPictures() {
        text = new int[LETTER_LIMIT];
        letters = 0;
        reader = new Reader();
        wall = new Wall();
        draft = new Wall();
        past = new Past();
        row = new Row();
        rowKnown = false;
        crowd = new Crowd();
        sights = new Sights();
        images = new Wall[IMAGE_LIMIT];
        for (int i = 0; i < IMAGE_LIMIT; i++) {
            images[i] = new Wall();
        }
        imageKept = new boolean[IMAGE_LIMIT];
    }

    // ---- what is told

    public int type(int letter) {
        if (letter < 0 || letter > 255) {
            return BAD;
        }
        if (letters >= LETTER_LIMIT) {
            return FULL;
        }
        text[letters] = letter;
        letters++;
        return letters;
    }

    public int clear() {
        int had = letters;
        letters = 0;
        return had;
    }

    public int tells() {
        int answer = reader.readInto(draft, text, letters);
        if (answer < 0) {
            return answer;
        }
        remember();
        wall.copyFrom(draft);
        letters = 0;
        return answer;
    }

    // ---- what is done

    public int hangs(int p, int x) {
        if (!wall.hasPicture(p) || x < 0 || x >= GREATEST_WIDTH) {
            return BAD;
        }
        if (wall.isUp(p) || !wall.isFreeFor(p, x)) {
            return STATE;
        }
        boolean made = !wall.hasHoleFor(p, x);
        if (made && wall.holes >= HOLE_LIMIT) {
            return FULL;
        }
        remember();
        wall.putUp(p, x);
        return made ? 1 : 0;
    }

    public int takes(int p) {
        if (!wall.hasPicture(p)) {
            return BAD;
        }
        if (!wall.isUp(p)) {
            return STATE;
        }
        remember();
        int x = wall.at[p];
        wall.at[p] = NONE;
        return x;
    }

    public int fills(int k) {
        if (!wall.hasHole(k)) {
            return BAD;
        }
        if (wall.findPictureOn(k) != NONE) {
            return STATE;
        }
        remember();
        wall.removeHole(k);
        return wall.holes;
    }

    public int lines(int l) {
        if (l < LEAST_LINE || l > GREATEST_LINE) {
            return BAD;
        }
        if (l == wall.line) {
            return STATE;
        }
        remember();
        int was = wall.line;
        wall.line = l;
        wall.takeAllDown();
        return was;
    }

    public int undo() {
        if (!past.giveLatestTo(wall)) {
            return STATE;
        }
        rowKnown = false;
        return past.known;
    }

    // ---- asked

    public int picture(int p, int what) {
        if (!wall.hasPicture(p)) {
            return NO;
        }
        switch (what) {
            case 0:
                return wall.wide[p];
            case 1:
                return wall.tall[p];
            case 2:
                return wall.drop[p];
            case 3:
                return wall.weight[p];
            case 4:
                return wall.at[p];
            case 5:
                return wall.hookY(p);
            default:
                return NO;
        }
    }

    public int hole(int k, int what) {
        if (!wall.hasHole(k)) {
            return NO;
        }
        switch (what) {
            case 0:
                return wall.holeX[k];
            case 1:
                return wall.holeY[k];
            case 2:
                return wall.findPictureOn(k);
            default:
                return NO;
        }
    }

    public int door(int k, int what) {
        if (!wall.hasDoor(k)) {
            return BAD;
        }
        switch (what) {
            case 0:
                return wall.from[k];
            case 1:
                return wall.to[k];
            default:
                return BAD;
        }
    }

    public int moment(int what) {
        switch (what) {
            case 0:
                return wall.momentNow();
            case 1:
                return Math.abs(wall.momentNow());
            default:
                return NO;
        }
    }

    // ---- what would be best

    public int best(int what) {
        if (what < 0) {
            return BAD;
        }
        if (!rowKnown) {
            row.search(wall);
            rowKnown = true;
        }
        return row.answer(what);
    }

    public int places(int p, int what) {
        if (!wall.hasPicture(p) || what < 0 || what > 3) {
            return BAD;
        }
        if (wall.isUp(p)) {
            return STATE;
        }
        switch (what) {
            case 0:
                return countPlaces(p);
            case 1:
                return leastPlace(p, false);
            case 2:
                return leastPlace(p, true);
            default:
                return calmestPlace(p);
        }
    }

    public int most() {
        return crowd.largestSet(wall);
    }

    // ---- which picture

    public int sees(int what, int n) {
        if (what < 0 || what > 3 || n < -99 || n > 99) {
            return BAD;
        }
        if (sights.size >= SEEN_LIMIT) {
            return FULL;
        }
        sights.add(what, n);
        return sights.size;
    }

    public int forget() {
        int was = sights.size;
        sights.size = 0;
        return was;
    }

    public int which(int what) {
        switch (what) {
            case 0:
                return sights.countMatches(wall);
            case 1:
                return sights.leastMatch(wall);
            default:
                return BAD;
        }
    }

    // ---- images

    public int keep(int image) {
        if (image < 0 || image >= IMAGE_LIMIT) {
            return BAD;
        }
        images[image].copyFrom(wall);
        imageKept[image] = true;
        return wall.countUp();
    }

    public int back(int image) {
        if (image < 0 || image >= IMAGE_LIMIT) {
            return BAD;
        }
        if (!imageKept[image]) {
            return STATE;
        }
        wall.copyFrom(images[image]);
        past.known = 0;
        rowKnown = false;
        return wall.countUp();
    }

    public int count(int what) {
        switch (what) {
            case 0:
                return wall.width;
            case 1:
                return wall.line;
            case 2:
                return wall.gap;
            case 3:
                return wall.pictures;
            case 4:
                return wall.doors;
            case 5:
                return wall.holes;
            case 6:
                return wall.countUp();
            case 7:
                return sights.size;
            case 8:
                return letters;
            case 9:
                return past.known;
            default:
                return BAD;
        }
    }

    /** Stands ahead of every change that can be undone; the best row may be another one behind it. */
    private void remember() {
        past.add(wall);
        rowKnown = false;
    }

    private int countPlaces(int p) {
        int found = 0;
        for (int x = 0; x < wall.width; x++) {
            if (wall.isFreeFor(p, x)) {
                found++;
            }
        }
        return found;
    }

    private int leastPlace(int p, boolean withHole) {
        for (int x = 0; x < wall.width; x++) {
            if (wall.isFreeFor(p, x) && (!withHole || wall.hasHoleFor(p, x))) {
                return x;
            }
        }
        return NONE;
    }

    private int calmestPlace(int p) {
        int others = wall.momentNow();
        int calmest = NONE;
        int leastOff = 0;
        for (int x = 0; x < wall.width; x++) {
            if (wall.isFreeFor(p, x)) {
                int off = Math.abs(others + wall.momentAt(p, x));
                if (calmest == NONE || off < leastOff) {
                    calmest = x;
                    leastOff = off;
                }
            }
        }
        return calmest;
    }

    /** All that a text tells, and where the pictures hang: what undo and images bring back. */
    private static final class Wall {
        private int width;
        private int line;
        private int gap;
        private int pictures;
        private int doors;
        private int holes;
        private final int[] wide;
        private final int[] tall;
        private final int[] drop;
        private final int[] weight;
        private final int[] at;
        private final int[] from;
        private final int[] to;
        private final int[] holeX;
        private final int[] holeY;

        private Wall() {
            wide = new int[PICTURE_LIMIT];
            tall = new int[PICTURE_LIMIT];
            drop = new int[PICTURE_LIMIT];
            weight = new int[PICTURE_LIMIT];
            at = new int[PICTURE_LIMIT];
            from = new int[DOOR_LIMIT];
            to = new int[DOOR_LIMIT];
            holeX = new int[HOLE_LIMIT];
            holeY = new int[HOLE_LIMIT];
            makeBare();
        }

        private void makeBare() {
            width = FIRST_WIDTH;
            line = FIRST_LINE;
            gap = 0;
            pictures = 0;
            doors = 0;
            holes = 0;
        }

        private void copyFrom(Wall other) {
            width = other.width;
            line = other.line;
            gap = other.gap;
            pictures = other.pictures;
            doors = other.doors;
            holes = other.holes;
            System.arraycopy(other.wide, 0, wide, 0, PICTURE_LIMIT);
            System.arraycopy(other.tall, 0, tall, 0, PICTURE_LIMIT);
            System.arraycopy(other.drop, 0, drop, 0, PICTURE_LIMIT);
            System.arraycopy(other.weight, 0, weight, 0, PICTURE_LIMIT);
            System.arraycopy(other.at, 0, at, 0, PICTURE_LIMIT);
            System.arraycopy(other.from, 0, from, 0, DOOR_LIMIT);
            System.arraycopy(other.to, 0, to, 0, DOOR_LIMIT);
            System.arraycopy(other.holeX, 0, holeX, 0, HOLE_LIMIT);
            System.arraycopy(other.holeY, 0, holeY, 0, HOLE_LIMIT);
        }

        private void addPicture(int itsWide, int itsTall, int itsDrop, int itsWeight) {
            if (pictures < PICTURE_LIMIT) {
                wide[pictures] = itsWide;
                tall[pictures] = itsTall;
                drop[pictures] = itsDrop;
                weight[pictures] = itsWeight;
                at[pictures] = NONE;
                pictures++;
            }
        }

        private void addDoor(int itsFrom, int itsTo) {
            if (doors < DOOR_LIMIT) {
                from[doors] = itsFrom;
                to[doors] = itsTo;
                doors++;
            }
        }

        private void addHole(int x, int y) {
            if (holes < HOLE_LIMIT) {
                holeX[holes] = x;
                holeY[holes] = y;
                holes++;
            }
        }

        private void removeHole(int k) {
            if (hasHole(k)) {
                for (int i = k + 1; i < holes; i++) {
                    holeX[i - 1] = holeX[i];
                    holeY[i - 1] = holeY[i];
                }
                holes--;
            }
        }

        private boolean hasPicture(int p) {
            return p >= 0 && p < pictures;
        }

        private boolean hasDoor(int k) {
            return k >= 0 && k < doors;
        }

        private boolean hasHole(int k) {
            return k >= 0 && k < holes;
        }

        private boolean isUp(int p) {
            return hasPicture(p) && at[p] != NONE;
        }

        private int hookX(int p, int x) {
            return hasPicture(p) ? 2 * x + wide[p] : NONE;
        }

        private int hookY(int p) {
            return hasPicture(p) ? 2 * line + tall[p] - 2 * drop[p] : NONE;
        }

        private int findHole(int x, int y) {
            for (int k = 0; k < holes; k++) {
                if (holeX[k] == x && holeY[k] == y) {
                    return k;
                }
            }
            return NONE;
        }

        private boolean hasHoleFor(int p, int x) {
            return findHole(hookX(p, x), hookY(p)) >= 0;
        }

        private int findPictureOn(int k) {
            if (!hasHole(k)) {
                return NONE;
            }
            for (int p = 0; p < pictures; p++) {
                if (at[p] != NONE && hookX(p, at[p]) == holeX[k] && hookY(p) == holeY[k]) {
                    return p;
                }
            }
            return NONE;
        }

        private boolean fits(int p, int x) {
            if (!hasPicture(p) || x < 0 || x + wide[p] > width) {
                return false;
            }
            for (int k = 0; k < doors; k++) {
                if (x < to[k] && from[k] < x + wide[p]) {
                    return false;
                }
            }
            return true;
        }

        private boolean isApartFromAll(int p, int x) {
            if (!hasPicture(p)) {
                return false;
            }
            for (int q = 0; q < pictures; q++) {
                if (q != p && at[q] != NONE && x + wide[p] + gap > at[q] && at[q] + wide[q] + gap > x) {
                    return false;
                }
            }
            return true;
        }

        private boolean isFreeFor(int p, int x) {
            return fits(p, x) && isApartFromAll(p, x);
        }

        private void putUp(int p, int x) {
            if (hasPicture(p)) {
                at[p] = x;
                if (!hasHoleFor(p, x)) {
                    addHole(hookX(p, x), hookY(p));
                }
            }
        }

        private void takeAllDown() {
            for (int p = 0; p < pictures; p++) {
                at[p] = NONE;
            }
        }

        private int countUp() {
            int up = 0;
            for (int p = 0; p < pictures; p++) {
                if (at[p] != NONE) {
                    up++;
                }
            }
            return up;
        }

        private int momentAt(int p, int x) {
            return hasPicture(p) ? weight[p] * (hookX(p, x) - width) : 0;
        }

        private int momentNow() {
            int sum = 0;
            for (int p = 0; p < pictures; p++) {
                if (at[p] != NONE) {
                    sum += momentAt(p, at[p]);
                }
            }
            return sum;
        }

        private int firstFit(int p, int start) {
            for (int x = start; x < width; x++) {
                if (fits(p, x)) {
                    return x;
                }
            }
            return NONE;
        }
    }

    /** THE TEXT cut into tokens; behind the last one stands END, at the text's length. */
    private static final class Tokens {
        private static final int END = 0, WRONG = 1, NUMBER = 2, SEMICOLON = 3;
        private static final int WALL = 4, PIC = 5, DOOR = 6, HOLE = 7;
        private static final int GREATEST_NUMBER = 99;
        private static final int TOKEN_LIMIT = LETTER_LIMIT + 1;

        private final int[] kinds;
        private final int[] places;
        private final int[] values;
        private int size;

        private Tokens() {
            kinds = new int[TOKEN_LIMIT];
            places = new int[TOKEN_LIMIT];
            values = new int[TOKEN_LIMIT];
        }

        private void cut(int[] text, int length) {
            size = 0;
            int place = 0;
            while (place < length && place < text.length) {
                int end = endOfToken(text, length, place);
                if (text[place] != ' ') {
                    add(kindOf(text, place, end), place, valueOf(text, place, end));
                }
                // a token has one letter at least, so this ends
                place = Math.max(end, place + 1);
            }
            add(END, length, 0);
        }

        private void add(int kind, int place, int value) {
            if (size < TOKEN_LIMIT) {
                kinds[size] = kind;
                places[size] = place;
                values[size] = value;
                size++;
            }
        }

        private static int endOfToken(int[] text, int length, int start) {
            int sort = sortAt(text, start);
            int end = start + 1;
            while (sort != WRONG && end < length && sortAt(text, end) == sort) {
                end++;
            }
            return end;
        }

        /** PIC stands for any letter of a word; WRONG for a letter that is joined to no other. */
        private static int sortAt(int[] text, int place) {
            int letter = place >= 0 && place < text.length ? text[place] : NONE;
            if (letter >= 'a' && letter <= 'z') {
                return PIC;
            }
            return letter >= '0' && letter <= '9' ? NUMBER : WRONG;
        }

        private static int kindOf(int[] text, int start, int end) {
            switch (sortAt(text, start)) {
                case NUMBER:
                    return kindOfFigures(text, start, end);
                case PIC:
                    return kindOfWord(text, start, end);
                default:
                    return spells(text, start, end, ";") ? SEMICOLON : WRONG;
            }
        }

        private static int kindOfFigures(int[] text, int start, int end) {
            boolean zeroAhead = end - start > 1 && spells(text, start, start + 1, "0");
            return zeroAhead || valueOf(text, start, end) > GREATEST_NUMBER ? WRONG : NUMBER;
        }

        private static int kindOfWord(int[] text, int start, int end) {
            if (spells(text, start, end, "wall")) {
                return WALL;
            }
            if (spells(text, start, end, "pic")) {
                return PIC;
            }
            if (spells(text, start, end, "door")) {
                return DOOR;
            }
            return spells(text, start, end, "hole") ? HOLE : WRONG;
        }

        private static boolean spells(int[] text, int start, int end, String word) {
            if (end - start != word.length() || start < 0 || end > text.length) {
                return false;
            }
            for (int i = 0; i < word.length(); i++) {
                if (text[start + i] != word.charAt(i)) {
                    return false;
                }
            }
            return true;
        }

        private static int valueOf(int[] text, int start, int end) {
            int value = 0;
            for (int i = start; i < end && sortAt(text, i) == NUMBER; i++) {
                // a long row of figures must not wrap around into what a number may be
                value = Math.min(10 * value + text[i] - '0', GREATEST_NUMBER + 1);
            }
            return value;
        }
    }

    /** Reads tokens into a wall; behind a fault, place is that of the token that can't stand there. */
    private static final class Reader {
        private final Tokens tokens;
        private int next;
        private int kind;
        private int place;
        private int value;
        private boolean wallTold;

        private Reader() {
            tokens = new Tokens();
        }

        /** How many items; -10 less the fault's place, and then what stands in the wall is of no use. */
        private int readInto(Wall wall, int[] text, int length) {
            tokens.cut(text, length);
            next = 0;
            wallTold = false;
            wall.makeBare();
            for (int items = 0; items <= LETTER_LIMIT; items++) {
                readToken();
                if (kind == Tokens.END) {
                    return items;
                }
                if (!readItem(wall) || !readSemicolon()) {
                    break;
                }
            }
            return -10 - place;
        }

        /** Behind END there is END again. */
        private void readToken() {
            if (next >= 0 && next < tokens.size) {
                kind = tokens.kinds[next];
                place = tokens.places[next];
                value = tokens.values[next];
                next++;
            }
        }

        private boolean readSemicolon() {
            readToken();
            return kind == Tokens.SEMICOLON;
        }

        private boolean readNumber(int least, int greatest) {
            readToken();
            return kind == Tokens.NUMBER && value >= least && value <= greatest;
        }

        private boolean readItem(Wall wall) {
            switch (kind) {
                case Tokens.WALL:
                    return !wallTold && readWall(wall);
                case Tokens.PIC:
                    return wall.pictures < PICTURE_LIMIT && readPicture(wall);
                case Tokens.DOOR:
                    return wall.doors < DOOR_LIMIT && readDoor(wall);
                case Tokens.HOLE:
                    return wall.holes < HOLE_LIMIT && readHole(wall);
                default:
                    return false;
            }
        }

        private boolean readWall(Wall wall) {
            wallTold = true;
            if (!readNumber(LEAST_WIDTH, GREATEST_WIDTH)) {
                return false;
            }
            wall.width = value;
            if (!readNumber(LEAST_LINE, GREATEST_LINE)) {
                return false;
            }
            wall.line = value;
            if (!readNumber(0, GREATEST_GAP)) {
                return false;
            }
            wall.gap = value;
            return true;
        }

        private boolean readPicture(Wall wall) {
            if (!readNumber(1, GREATEST_SIZE)) {
                return false;
            }
            int wide = value;
            if (!readNumber(1, GREATEST_SIZE)) {
                return false;
            }
            int tall = value;
            if (!readNumber(0, tall)) {
                return false;
            }
            int drop = value;
            if (!readNumber(1, GREATEST_WEIGHT)) {
                return false;
            }
            wall.addPicture(wide, tall, drop, value);
            return true;
        }

        private boolean readDoor(Wall wall) {
            if (!readNumber(0, GREATEST_WIDTH - 1)) {
                return false;
            }
            int from = value;
            if (!readNumber(from + 1, GREATEST_WIDTH)) {
                return false;
            }
            wall.addDoor(from, value);
            return true;
        }

        private boolean readHole(Wall wall) {
            if (!readNumber(0, GREATEST_HOLE_X)) {
                return false;
            }
            int x = value;
            if (!readNumber(0, GREATEST_HOLE_Y) || wall.findHole(x, value) >= 0) {
                return false;
            }
            wall.addHole(x, value);
            return true;
        }
    }

    /** The walls that undo can bring back, the oldest first. */
    private static final class Past {
        private final Wall[] walls;
        private int known;

        private Past() {
            walls = new Wall[UNDO_LIMIT];
            for (int i = 0; i < UNDO_LIMIT; i++) {
                walls[i] = new Wall();
            }
        }

        private void add(Wall now) {
            if (known >= UNDO_LIMIT) {
                loseOldest();
            }
            walls[known].copyFrom(now);
            known++;
        }

        /** The oldest one's room is used again for what comes next, so that no call makes a new wall. */
        private void loseOldest() {
            Wall oldest = walls[0];
            for (int i = 1; i < UNDO_LIMIT; i++) {
                walls[i - 1] = walls[i];
            }
            walls[UNDO_LIMIT - 1] = oldest;
            known = UNDO_LIMIT - 1;
        }

        private boolean giveLatestTo(Wall now) {
            if (known <= 0) {
                return false;
            }
            known--;
            now.copyFrom(walls[known]);
            return true;
        }
    }

    /** The best row. Rows are tried by gap, first x and order, so that of equal ones the first tried is due. */
    private static final class Row {
        private final long[] fitting;
        private final long[] holed;
        private final int[] tried;
        private final int[] order;
        private int triedGap;
        private int triedFirst;
        private int size;
        private int leastBare;
        private int leastOff;
        private boolean found;
        private int bare;
        private int off;
        private int gap;
        private int first;

        private Row() {
            fitting = new long[PICTURE_LIMIT];
            holed = new long[PICTURE_LIMIT];
            tried = new int[PICTURE_LIMIT];
            order = new int[PICTURE_LIMIT];
        }

        private int answer(int what) {
            if (!found) {
                return NONE;
            }
            switch (what) {
                case 0:
                    return bare;
                case 1:
                    return off;
                case 2:
                    return gap;
                case 3:
                    return first;
                default:
                    return pictureAt(what - 4);
            }
        }

        private int pictureAt(int place) {
            return place >= 0 && place < size ? order[place] : NONE;
        }

        private void search(Wall wall) {
            found = false;
            size = wall.pictures;
            leastBare = 0;
            leastOff = 0;
            int room = wall.width;
            for (int p = 0; p < size; p++) {
                markPlaces(wall, p);
                room -= wall.wide[p];
                leastBare += holed[p] == 0 ? 1 : 0;
                // a step of x moves a hook by 2: whether the moment is odd is the same in all rows
                leastOff ^= wall.momentAt(p, 0) & 1;
            }
            if (size > 0) {
                tryAllGaps(wall, room);
            }
        }

        /** Where p fits and where its hook has a hole, as bits, so that trying a row asks no door or hole again. */
        private void markPlaces(Wall wall, int p) {
            if (!wall.hasPicture(p)) {
                return;
            }
            fitting[p] = 0;
            holed[p] = 0;
            for (int x = 0; x < wall.width; x++) {
                if (wall.fits(p, x)) {
                    fitting[p] |= 1L << x;
                    if (wall.hasHoleFor(p, x)) {
                        holed[p] |= 1L << x;
                    }
                }
            }
        }

        private void tryAllGaps(Wall wall, int room) {
            for (int g = wall.gap; g <= GREATEST_ROW_GAP; g++) {
                for (int x = 0; x <= room - g * (size - 1); x++) {
                    if (found && bare == leastBare && off == leastOff) {
                        return;
                    }
                    triedGap = g;
                    triedFirst = x;
                    tryOrders(this, wall, 0, x, 0, 0, 0);
                }
            }
        }

        private static void tryOrders(Row row, Wall wall, int depth, int x, int used, int bareSoFar, int momentSoFar) {
            if (row.found && bareSoFar > row.bare) {
                return;
            }
            if (depth >= row.size) {
                row.takeIfBetter(bareSoFar, Math.abs(momentSoFar));
                return;
            }
            for (int p = 0; p < row.size; p++) {
                if ((used & 1 << p) == 0 && isMarked(row.fitting[p], x)) {
                    row.tried[depth] = p;
                    tryOrders(row, wall, depth + 1, x + wall.wide[p] + row.triedGap, used | 1 << p,
                            isMarked(row.holed[p], x) ? bareSoFar : bareSoFar + 1,
                            momentSoFar + wall.momentAt(p, x));
                }
            }
        }

        private void takeIfBetter(int newBare, int newOff) {
            if (!found || newBare < bare || newBare == bare && newOff < off) {
                found = true;
                bare = newBare;
                off = newOff;
                gap = triedGap;
                first = triedFirst;
                System.arraycopy(tried, 0, order, 0, PICTURE_LIMIT);
            }
        }

        private static boolean isMarked(long marks, int x) {
            return x >= 0 && x < GREATEST_WIDTH && (marks >>> x & 1L) != 0;
        }
    }

    /** The most that hang at once. */
    private static final class Crowd {
        private static final int SETS = 1 << PICTURE_LIMIT;
        private static final int NEVER = 1000;

        /** Of each set, where it ends at the least: of the sets that hang further left, more can follow. */
        private final int[] ends;

        private Crowd() {
            ends = new int[SETS];
        }

        private int largestSet(Wall wall) {
            int largest = 0;
            // the first picture needs no gap ahead of it
            ends[0] = -wall.gap;
            for (int set = 1; set < 1 << wall.pictures && set < SETS; set++) {
                ends[set] = leastEnd(wall, set);
                if (ends[set] != NEVER && isBetter(wall, set, largest)) {
                    largest = set;
                }
            }
            return largest;
        }

        private int leastEnd(Wall wall, int set) {
            int least = NEVER;
            for (int p = 0; p < wall.pictures; p++) {
                int rest = set & ~(1 << p);
                if (rest >= 0 && rest < set && rest < SETS && ends[rest] != NEVER) {
                    int x = wall.firstFit(p, ends[rest] + wall.gap);
                    if (x != NONE) {
                        least = Math.min(least, x + wall.wide[p]);
                    }
                }
            }
            return least;
        }

        private static boolean isBetter(Wall wall, int set, int other) {
            int more = Integer.bitCount(set) - Integer.bitCount(other);
            return more > 0 || more == 0 && weightOf(wall, set) > weightOf(wall, other);
        }

        private static int weightOf(Wall wall, int set) {
            int sum = 0;
            for (int p = 0; p < wall.pictures; p++) {
                if ((set & 1 << p) != 0) {
                    sum += wall.weight[p];
                }
            }
            return sum;
        }
    }

    /** What was seen of an unknown picture. */
    private static final class Sights {
        private final int[] whats;
        private final int[] numbers;
        private int size;

        private Sights() {
            whats = new int[SEEN_LIMIT];
            numbers = new int[SEEN_LIMIT];
        }

        private void add(int what, int n) {
            if (size < SEEN_LIMIT) {
                whats[size] = what;
                numbers[size] = n;
                size++;
            }
        }

        private int countMatches(Wall wall) {
            int found = 0;
            for (int p = 0; p < wall.pictures; p++) {
                if (matches(wall, p)) {
                    found++;
                }
            }
            return found;
        }

        private int leastMatch(Wall wall) {
            for (int p = 0; p < wall.pictures; p++) {
                if (matches(wall, p)) {
                    return p;
                }
            }
            return NONE;
        }

        private boolean matches(Wall wall, int p) {
            for (int i = 0; i < size; i++) {
                if (measured(wall, p, whats[i]) != numbers[i]) {
                    return false;
                }
            }
            return true;
        }

        private static int measured(Wall wall, int p, int what) {
            if (!wall.hasPicture(p)) {
                return NO;
            }
            switch (what) {
                case 0:
                    return wall.wide[p];
                case 1:
                    return wall.tall[p];
                case 2:
                    return wall.weight[p];
                default:
                    return wall.hookY(p);
            }
        }
    }
}
