/** Promises 1 to 4 at their boundaries: a new object, THE TEXT, what it tells, and where its FAULT is. */
public final class TextBoundaries extends Checks {
    private static final String PIC = "pic1 1 1 1;";
    private static final String DOOR = "door1 2;";

    private static void faultAt(int place, String text) {
        Run.typed(text).due("tells()", -10 - place);
        Run.LIVED.then("clear()").thenTyped(text).dueUnchanged("tells()", -10 - place);
    }

    private static void items(int want, String text) {
        Run.typed(text).due("tells()", want);
    }

    /** A number's edges, the text with a star in its place: the first and the last that may be, those beyond. */
    private static void number(String text, int least, int greatest, String asked) {
        for (int n : new int[] {least, greatest}) {
            Run.told(text.replace("*", "" + n)).due(asked, n);
        }
        faultAt(text.indexOf('*'), text.replace("*", "" + (greatest + 1)));
        if (least > 0) {
            faultAt(text.indexOf('*'), text.replace("*", "" + (least - 1)));
        }
    }

    // ---- a new object

    private static void bareWall() {
        Run.NEW.dueEach("count(*)", 20, 10, 0, 0, 0, 0, 0, 0, 0, 0);
        Run.NEW.due("picture(0, 0)", NO);
        Run.NEW.due("hole(0, 0)", NO);
        Run.NEW.due("door(0, 0)", BAD);
        Run.NEW.due("undo()", STATE);
        Run.NEW.due("back(0)", STATE);
        Run.NEW.due("back(1)", STATE);
        Run.NEW.dueSame(Run.told("").then("keep(0)", "back(0)"), "back(0)");
    }

    private static void lastCall() {
        Run r = Run.told("wall 10 5 0;" + PIC);
        for (int i = 0; i < 243; i++) {
            r = r.then("hangs(0, 9)", "takes(0)");
        }
        r = r.then("sees(0, 1)");
        r.due("hangs(0, 9)", 0);
        r.due("best(3)", 9);
    }

    private static void width() {
        Run.NEW.due("count(0)", 20);
        number("wall * 5 0;", 10, 40, "count(0)");
        Run.told("wall 10 5 0;" + PIC).due("hangs(0, 9)", 1);
        Run.told("wall 10 5 0;" + PIC).dueUnchanged("hangs(0, 10)", STATE);
        Run.told("wall 40 5 0;" + PIC).due("hangs(0, 39)", 1);
        Run.told(PIC).due("hangs(0, 19)", 1);
        Run.told(PIC).dueUnchanged("hangs(0, 20)", STATE);
    }

    private static void line() {
        Run.NEW.due("count(1)", 10);
        number("wall 10 * 0;", 5, 20, "count(1)");
    }

    private static void gap() {
        Run.NEW.due("count(2)", 0);
        number("wall 10 5 *;", 0, 9, "count(2)");
    }

    // ---- PICTURES, DOORS, HOLES

    private static void pictures() {
        Run.NEW.due("count(3)", 0);
        Run.told(PIC.repeat(4) + "pic 2 3 1 4;").due("count(3)", 5);
        Run.told(PIC.repeat(4) + "pic 2 3 1 4;").dueEach("picture(4, *)", 2, 3, 1, 4, NONE, 21, NO);
    }

    private static void sixthPicture() {
        items(5, PIC.repeat(5));
        faultAt(55, PIC.repeat(6));
        faultAt(55, PIC.repeat(5) + "pic");
        faultAt(55, PIC.repeat(5) + "pic 0 0 0 0;");
        faultAt(73, PIC.repeat(2) + DOOR + PIC.repeat(3) + "hole 1 2; " + PIC);
        // five in each text
        Run.told(PIC.repeat(5)).thenTyped(PIC.repeat(5)).due("tells()", 5);
    }

    private static void wide() {
        number("pic * 2 1 3;", 1, 9, "picture(0, 0)");
    }

    private static void tall() {
        number("pic 4 * 1 3;", 1, 9, "picture(0, 1)");
    }

    private static void drop() {
        for (int tall = 1; tall <= 9; tall++) {
            number("pic 4 " + tall + " * 3;", 0, tall, "picture(0, 2)");
        }
        // the TALL of the PICTURE itself, not of the one ahead of it
        faultAt(20, "pic 1 9 9 1;pic 1 1 2 1;");
        items(2, "pic 1 1 1 1;pic 1 9 9 1;");
    }

    private static void weight() {
        number("pic 4 2 1 *;", 1, 9, "picture(0, 3)");
    }

    private static void doors() {
        Run.NEW.due("count(4)", 0);
        Run.told(DOOR + DOOR + "door 3 5;").due("count(4)", 3);
        Run.told(DOOR + DOOR + "door 3 5;").dueEach("door(2, *)", 3, 5, BAD);
    }

    private static void fourthDoor() {
        items(3, DOOR.repeat(3));
        faultAt(24, DOOR.repeat(4));
        faultAt(24, DOOR.repeat(3) + "door");
        faultAt(24, DOOR.repeat(3) + "door 41 41;");
        Run.told(DOOR.repeat(3)).thenTyped(DOOR.repeat(3)).due("tells()", 3);
        faultAt(45, DOOR.repeat(2) + "hole 1 2;" + DOOR + "pic 1 1 1 1;door 6 7;");
    }

    private static void doorFrom() {
        number("door * 40;", 0, 39, "door(0, 0)");
        faultAt(5, "door 40 41;");
        faultAt(5, "door 41 40;");
    }

    private static void doorTo() {
        number("door 0 *;", 1, 40, "door(0, 1)");
        number("door 7 *;", 8, 40, "door(0, 1)");
        number("door 39 *;", 40, 40, "door(0, 1)");
        faultAt(7, "door 7 0;");
        faultAt(8, "door 39 38;");
        // a DOOR may stand beyond the wall
        Run.told("door 39 40;wall 10 5 0;").due("door(0, 1)", 40);
    }

    private static void holes() {
        Run.NEW.due("count(5)", 0);
        StringBuilder text = new StringBuilder();
        for (int k = 0; k < 15; k++) {
            text.append("hole").append(k % 8).append(' ').append(k / 8).append(';');
        }
        // 16 can't be told by 120 letters; a 16th and a 17th one are tried by hangs()
        Run.typed(text.toString()).due("count(8)", 120);
        Run.told(text.toString()).due("count(5)", 15);
        for (int k = 0; k < 15; k++) {
            Run.told(text.toString()).dueEach("hole(" + k + ", *)", k % 8, k / 8, NONE);
        }
        Run.told(text.toString()).due("hole(15, 0)", NO);
    }

    private static void holeX() {
        number("hole * 9;", 0, 80, "hole(0, 0)");
    }

    private static void holeY() {
        number("hole 9 *;", 0, 60, "hole(0, 1)");
    }

    private static void holeToldAgain() {
        faultAt(14, "hole1 2;hole1 2;");
        faultAt(16, "hole 0 0;hole 0 0;");
        faultAt(25, "hole 1 2;hole 3 4;hole 1 2;");
        faultAt(25, "hole 1 2;hole 3 4;hole 3 4;");
        faultAt(20, "hole 80 60;hole 80  60;hole 1 2;");
        faultAt(16, "hole 1 2;hole 1 2");
        faultAt(16, "hole 1 2;hole 1 2 ?");
    }

    private static void noTwoHolesAlike() {
        faultAt(16, "hole 1 2;hole 1 2;");
        items(2, "hole 1 2;hole 1 3;");
        items(2, "hole 1 2;hole 2 2;");
        items(2, "hole 1 2;hole 2 1;");
        items(2, "hole 1 12;hole 11 2;");
        items(2, "hole 0 60;hole 1 0;");
        // the holes ahead of a text are gone by it
        Run.told("hole 1 2;").thenTyped("hole 1 2;").due("tells()", 1);
    }

    // ---- THE TEXT

    private static void letterLimit() {
        Run.typed(" ".repeat(118)).due("type(32)", 119);
        Run.typed(" ".repeat(119)).due("type(32)", 120);
        Run.typed(" ".repeat(120)).dueUnchanged("type(32)", FULL);
        Run.LIVED.then("clear()").thenTyped(PIC + " ".repeat(109)).dueUnchanged("type(88)", FULL);
        Run.typed(" ".repeat(120)).thenRefused("type(32)").then("clear()").due("type(32)", 1);
        Run.typed(" ".repeat(120)).then("tells()").due("type(32)", 1);
        items(1, " ".repeat(109) + PIC);
        items(10, (PIC.repeat(5) + DOOR.repeat(3) + "hole 1 2;wall 12 8 1;").replace(";", " ;"));
    }

    private static void letters() {
        Run.NEW.due("type(0)", 1);
        Run.NEW.due("type(255)", 1);
        for (int letter : new int[] {-1, 256, 256 + 32, 256 + ';', 65536 + 32, -224, LEAST, GREATEST}) {
            Run.NEW.dueUnchanged("type(" + letter + ")", BAD);
            Run.LIVED.dueUnchanged("type(" + letter + ")", BAD);
            Run.LIVED.then("clear()").thenTyped(" ".repeat(120)).dueUnchanged("type(" + letter + ")", BAD);
        }
        Run.NEW.then("type(0)").due("type(32)", 2);
    }

    private static void clearing() {
        Run.NEW.due("clear()", 0);
        Run.typed("x").due("clear()", 1);
        Run.typed("x").then("clear()").due("clear()", 0);
        Run.typed("x".repeat(120)).due("clear()", 120);
        Run.typed("x".repeat(120)).then("clear()").due("count(8)", 0);
        Run.typed("x?").then("clear()").thenTyped(PIC).due("tells()", 1);
        Run.told(PIC).due("clear()", 0);
        Run.LIVED.due("clear()", 24);
        Run.LIVED.then("clear()", "type(88)", "clear()").dueSame(Run.LIVED.then("clear()"));
        Run.LIVED.then("clear()").thenTyped("wall 12 6 2;pic 1 1 1 1;").dueSame(Run.LIVED);
    }

    private static void blanksAnywhere() {
        items(0, " ");
        items(0, " ".repeat(120));
        items(4, "  wall  12  8  1  ;  pic  3  4  1  5  ;  door  5  6  ;  hole  3  18  ;  ");
        items(4, "wall12 8 1;pic3 4 1 5;door5 6;hole3 18;");
        faultAt(0, "wa ll 12 8 1;");
        faultAt(5, "wall 1 2 8 1;");
        faultAt(9, "hole 1 2 3;");
        // 32 alone is a blank
        for (int other : new int[] {0, 9, 10, 11, 12, 13, 31, 33, 127, 133, 160}) {
            faultAt(0, (char) other + PIC);
            faultAt(11, PIC + (char) other);
            faultAt(3, "pic" + (char) other + "1 1 1 1;");
        }
    }

    private static void blanksBetweenNumbers() {
        faultAt(6, "hole56;");
        faultAt(7, "hole 56;");
        faultAt(4, "door56;");
        items(1, "hole5 6;");
        items(1, "hole5  6;");
    }

    private static void noItems() {
        items(0, "");
        Run.NEW.thenTold("").dueEach("count(*)", 20, 10, 0, 0, 0, 0, 0, 0, 0, 1);
        Run.LIVED.then("clear()", "tells()").dueEach("count(*)", 20, 10, 0, 0, 0, 0, 0, 2, 0, 6);
    }

    private static void endedBySemicolon() {
        for (String item : new String[] {"wall 12 8 1", "pic 3 4 1 5", "door 5 6", "hole 3 18"}) {
            items(1, item + ";");
            faultAt(item.length(), item);
            faultAt(item.length() + 1, item + ";;");
            faultAt(item.length() + 1, item + " 7;");
            faultAt(item.length() + 1, item + " pic 1 1 1 1;");
        }
        faultAt(11, "wall 12 8 1" + PIC);
        faultAt(0, ";");
        faultAt(1, " ;" + PIC);
    }

    private static void wallOnce() {
        Run.told(PIC).due("count(0)", 20);
        items(1, "wall 12 8 1;");
        Run.told(PIC + DOOR + "hole 1 2;wall 12 8 1;").dueEach("count(*)", 12, 8, 1, 1, 1, 1);
        Run.told(PIC + "wall 12 8 1;" + PIC).dueEach("count(*)", 12, 8, 1, 2, 0, 0);
        // once in each text
        Run.told("wall 12 8 1;").thenTyped("wall 13 8 1;").due("tells()", 1);
    }

    private static void wallAgain() {
        faultAt(12, "wall 12 8 1;wall 12 8 1;");
        faultAt(24, "wall 12 8 1;" + PIC + " wall 9 8 1;");
        faultAt(12, "wall 12 8 1;wall");
        // told as it is at first, it is told all the same
        faultAt(13, "wall 20 10 0;wall 12 8 1;");
    }

    private static void nextPicture() {
        Run r = Run.told("pic 1 2 2 3;pic 4 5 0 6;");
        r.dueEach("picture(0, *)", 1, 2, 2, 3);
        r.dueEach("picture(1, *)", 4, 5, 0, 6);
    }

    private static void doorToldWhole() {
        Run r = Run.told("door 3 9;door 0 40;");
        r.dueEach("door(0, *)", 3, 9);
        r.dueEach("door(1, *)", 0, 40);
        faultAt(6, "door 3;");
        faultAt(9, "door 3 9 1;");
    }

    // ---- TOKENS and FAULT

    private static void everyLetterAlone() {
        for (int letter = 0; letter <= 255; letter++) {
            items(letter == ' ' ? 0 : -10, "" + (char) letter);
        }
    }

    private static boolean isFigure(int letter) {
        return "0123456789".indexOf(letter) >= 0;
    }

    private static boolean isOfWords(int letter) {
        return "abcdefghijklmnopqrstuvwxyz".indexOf(letter) >= 0;
    }

    private static void everyLetterBehindWord() {
        for (int letter = 0; letter <= 255; letter++) {
            items(letter == ' ' ? 1 : isOfWords(letter) ? -10 : -13, "pic" + (char) letter + "1 1 1 1;");
        }
    }

    private static void everyLetterBehindNumber() {
        for (int letter = 0; letter <= 255; letter++) {
            items(letter == ' ' ? 1 : isFigure(letter) ? -14 : -15, "pic 1" + (char) letter + "1 1 1;");
            items(letter == ';' ? 1 : letter == ' ' ? -22 : isFigure(letter) ? -20 : -21, "pic 1 1 1 1" + (char) letter);
        }
    }

    /** Each number of each item, by the first one beyond, and all behind it wrong too: its own place is due. */
    private static void numbersBeyond() {
        faultAt(5, "wall 41 21 10;");
        faultAt(8, "wall 12 21 10;");
        faultAt(10, "wall 12 8 10;");
        faultAt(4, "pic 10 10 10 10;");
        faultAt(6, "pic 9 10 10 10;");
        faultAt(8, "pic 9 9 10 10;");
        faultAt(10, "pic 9 9 9 10;");
        faultAt(5, "door 40 41;");
        faultAt(8, "door 39 41;");
        faultAt(5, "hole 81 61;");
        faultAt(8, "hole 80 61;");
        // with no end of the item behind it
        faultAt(5, "wall 41");
        faultAt(10, "pic 9 9 9 0");
        faultAt(7, "door 7 7");
        faultAt(8, "hole 80 61 ");
    }

    private static void wordsThatAreNone() {
        for (String word : new String[] {"wall", "pic", "door", "hole"}) {
            faultAt(0, word.substring(0, word.length() - 1));
            faultAt(0, word.substring(1));
            faultAt(0, word + word.charAt(0));
            faultAt(0, word + "a 1 1 1 1;");
            faultAt(0, word + "z 1 1 1 1;");
            faultAt(0, word.toUpperCase() + " 1 1 1 1;");
            faultAt(3, "   x" + word);
            faultAt(word.length(), word + "X");
        }
    }

    private static void numbersThatAreNone() {
        faultAt(5, "hole 99 2;");
        faultAt(5, "hole 100 2;");
        faultAt(5, "hole 800 2;");
        faultAt(7, "hole 8 600;");
        faultAt(8, "pic 1 1 100 1;");
        faultAt(5, "hole 4294967296 2;");
        faultAt(5, "hole 4294967297 2;");
        faultAt(7, "hole 1 18446744073709551617;");
        faultAt(5, "hole " + "1".repeat(115));
        faultAt(5, "wall 012 8 1;");
        faultAt(5, "hole 00 2;");
        faultAt(5, "hole 01 2;");
        faultAt(7, "hole 0 00;");
        faultAt(7, "hole 1 09;");
        faultAt(7, "hole 1 000000000000002;");
        items(3, "hole 0 0;hole 10 0;hole 0 10;");
        items(2, "hole 80 60;hole 9 9;");
    }

    /** At each place of each item each token that can't stand there, with a wrong one more behind it. */
    private static void tokensThatCantStandThere() {
        for (String item : new String[] {"wall 12 8 1 ;", "pic 3 4 1 5 ;", "door 5 6 ;", "hole 3 18 ;"}) {
            String[] tokens = item.split(" ");
            StringBuilder ahead = new StringBuilder(PIC + "  ");
            for (int i = 0; i < tokens.length; i++) {
                for (String other : new String[] {";", "7", "wall", "pic", "door", "hole", "x", "?", "100", "00"}) {
                    if (!canStand(i, tokens.length, other)) {
                        faultAt(ahead.length(), ahead + other + " ? x 100");
                    }
                }
                ahead.append(tokens[i]).append(' ');
            }
            items(2, ahead.toString());
        }
    }

    private static boolean canStand(int place, int tokens, String token) {
        boolean word = token.equals("wall") || token.equals("pic") || token.equals("door") || token.equals("hole");
        return place == 0 ? word : place == tokens - 1 ? token.equals(";") : token.equals("7");
    }

    private static void firstOfSeveralFaults() {
        faultAt(5, "wall 9 4 10;");
        faultAt(4, "pic 0 0 0 0;");
        faultAt(5, "wall ; ?");
        faultAt(12, PIC + " pics ?");
        faultAt(11, PIC + "? pics");
        faultAt(16, PIC + "wall 9 x");
        faultAt(11, PIC + "x" + PIC.repeat(5));
        faultAt(5, "door 40 5;" + DOOR.repeat(3) + "?");
    }

    private static void endsTooEarly() {
        String[] texts = {"wall 12 8 1;", "pic 3 4 1 5;", "door 5 6;", "hole 3 18;"};
        // of each beginning of these: at which place its fault is
        int[][] places = {{0, 0, 0, 4, 5, 5, 7, 8, 9, 10, 11}, {0, 0, 3, 4, 5, 6, 7, 8, 9, 10, 11},
            {0, 0, 0, 4, 5, 6, 7, 8}, {0, 0, 0, 4, 5, 6, 7, 8, 9}};
        for (int i = 0; i < texts.length; i++) {
            for (int letters = 1; letters < texts[i].length(); letters++) {
                faultAt(places[i][letters - 1], texts[i].substring(0, letters));
            }
            items(1, texts[i]);
        }
        faultAt(6, "wall  ");
        faultAt(14, PIC + "pic");
        faultAt(120, "pic" + " ".repeat(117));
        faultAt(120, " ".repeat(117) + "pic");
        faultAt(119, " ".repeat(119) + "?");
        faultAt(119, " ".repeat(119) + "7");
        faultAt(118, " ".repeat(118) + "pi");
    }

    // ---- tells()

    private static void emptyThen() {
        Run.told(PIC).due("count(8)", 0);
        Run.told(PIC).due("type(112)", 1);
        Run.told(PIC).due("tells()", 0);
        Run.told(PIC).then("tells()").due("count(3)", 0);
    }

    private static void howManyItems() {
        items(0, "  ");
        items(1, PIC);
        items(2, PIC + "wall 12 8 1;");
        items(5, PIC.repeat(5));
        items(9, PIC.repeat(5) + DOOR.repeat(3) + "hole 1 2;");
    }

    private static void textStays() {
        Run r = Run.typed("wall 12 8 1;pic").thenRefused("tells()");
        r.due("count(8)", 15);
        r.due("count(0)", 20);
        r.due("count(9)", 0);
        r.thenTyped(" 2 2 1 4;").due("tells()", 2);
        r.thenTyped(" 2 2 1 4;").then("tells()").due("count(0)", 12);
        r.thenTyped("s").dueUnchanged("tells()", -22);
        Run.LIVED.thenTyped("?").dueUnchanged("tells()", -34);
    }

    private static void allAnew() {
        Run lived = Run.LIVED.then("clear()");
        lived.thenTold("pic 3 4 1 5;").dueEach("count(*)", 20, 10, 0, 1, 0, 0, 0, 2, 0, 6);
        lived.thenTold("wall 12 6 2;").dueEach("count(*)", 12, 6, 2, 0, 0, 0, 0, 2, 0, 6);
        lived.thenTold("door 1 2;").dueEach("count(*)", 20, 10, 0, 0, 1, 0, 0, 2, 0, 6);
        lived.thenTold("hole 1 2;").dueEach("count(*)", 20, 10, 0, 0, 0, 1, 0, 2, 0, 6);
        Run.NEW.then("lines(20)", "tells()").due("count(1)", 10);
    }

    private static void noneHangThen() {
        String text = "pic 2 2 1 4;pic 2 2 1 4;";
        Run r = Run.told(text).then("hangs(0, 0)", "hangs(1, 5)").thenTold(text);
        r.due("count(6)", 0);
        r.due("picture(0, 4)", NONE);
        r.due("picture(1, 4)", NONE);
        r.due("moment(0)", 0);
        r.due("hangs(1, 0)", 1);
        r.due("takes(0)", STATE);
    }

    private static void seenAndImagesStay() {
        Run r = Run.LIVED.then("tells()");
        r.due("count(7)", 2);
        r.due("which(0)", 0);
        r.thenTold("pic 3 4 1 1;pic 3 3 1 1;").due("which(0)", 1);
        r.due("back(0)", 1);
        r.due("back(1)", 3);
        r.then("back(1)").dueEach("count(*)", 30, 8, 1, 4, 2, 4, 3, 2, 0, 0);
    }

    private static void newObjectAndWall() {
        sentence("A bare wall, no PICTURES.", TextBoundaries::bareWall);
        sentence("An object is used for at most 512 calls after it has been made", TextBoundaries::lastCall);
        sentence("THE WALL is W wide (10 to 40; 20 at first)", TextBoundaries::width);
        sentence("its LINE is L high (5 to 20; 10 at first)", TextBoundaries::line);
        sentence("GAP is the least gap (0 to 9; 0 at first)", TextBoundaries::gap);
        sentence("PICTURES 0, 1, .. (5 at most; none at first)", TextBoundaries::pictures);
        sentence("each WIDE (1 to 9)", TextBoundaries::wide);
        sentence("TALL (1 to 9)", TextBoundaries::tall);
        sentence("its DROP (0 to TALL)", TextBoundaries::drop);
        sentence("its WEIGHT (1 to 9)", TextBoundaries::weight);
        sentence("DOORS (3 at most; none at first)", TextBoundaries::doors);
        sentence("FROM (0 to 39)", TextBoundaries::doorFrom);
        sentence("TO (FROM and 1, to 40)", TextBoundaries::doorTo);
        sentence("HOLES (16 at most; none at first)", TextBoundaries::holes);
        sentence("an X (0 to 80)", TextBoundaries::holeX);
        sentence("a Y (0 to 60)", TextBoundaries::holeY);
    }

    private static void textAndTokens() {
        sentence("THE TEXT is told letter by letter (120 letters at most)", TextBoundaries::letterLimit);
        sentence("A letter (0 .. 255) comes to THE TEXT: how many it has. BAD; FULL: 120.", TextBoundaries::letters);
        sentence("THE TEXT is empty: how many letters it had.", TextBoundaries::clearing);
        sentence("blanks (32) may stand ahead of, between and behind TOKENS", TextBoundaries::blanksAnywhere);
        sentence("(needed between two NUMBERS alone)", TextBoundaries::blanksBetweenNumbers);
        sentence("It tells all of these by ITEMS (none, too)", TextBoundaries::noItems);
        sentence("each ended by ;", TextBoundaries::endedBySemicolon);
        sentence("wall W L G (once at most)", TextBoundaries::wallOnce);
        sentence("pic W T D G (the next PICTURE: WIDE, TALL, DROP, WEIGHT)", TextBoundaries::nextPicture);
        sentence("door F T ;", TextBoundaries::doorToldWhole);
        sentence("hole X Y (no two alike)", TextBoundaries::noTwoHolesAlike);
        sentence("(wall again,", TextBoundaries::wallAgain);
        sentence("a sixth pic,", TextBoundaries::sixthPicture);
        sentence("a fourth door,", TextBoundaries::fourthDoor);
        // a 17th hole can't be told by 120 letters
        sentence("a Y by which a HOLE would be told again,", TextBoundaries::holeToldAgain);
        sentence("a NUMBER beyond what it may be, too)", TextBoundaries::numbersBeyond);
        sentence("of any other letter", TextBoundaries::everyLetterAlone);
        sentence("words (rows of letters a to z: wall, pic, door, hole)", TextBoundaries::everyLetterBehindWord);
        sentence("NUMBERS (rows of figures) and ;", TextBoundaries::everyLetterBehindNumber);
        sentence("of a word that is none of these", TextBoundaries::wordsThatAreNone);
        sentence("of a NUMBER above 99 or with a 0 ahead of others, that TOKEN's", TextBoundaries::numbersThatAreNone);
        sentence("the first TOKEN that can't stand there", TextBoundaries::tokensThatCantStandThere);
        sentence("FAULT: the place of the first letter of the first TOKEN", TextBoundaries::firstOfSeveralFaults);
        sentence("the text's length, if it ends too early", TextBoundaries::endsTooEarly);
    }

    private static void telling() {
        sentence("THE TEXT tells all anew, and is empty then", TextBoundaries::emptyThen);
        sentence("and is empty then: how many ITEMS.", TextBoundaries::howManyItems);
        sentence("-10 less FAULT: nothing changes, THE TEXT stays.", TextBoundaries::textStays);
        sentence("(A text told: what it does not tell is as at first;", TextBoundaries::allAnew);
        sentence("a text told (none hang then)", TextBoundaries::noneHangThen);
        sentence("what was SEEN, IMAGES stay.)", TextBoundaries::seenAndImagesStay);
    }

    public static void main(String[] args) {
        newObjectAndWall();
        textAndTokens();
        telling();
        end();
    }
}
