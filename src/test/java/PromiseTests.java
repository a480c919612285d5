/** The promises of the document one by one, by ordinary walls; their boundaries have tests of their own. */
public final class PromiseTests extends Checks {
    private static void typeAll(HungPictures h, String text) {
        for (int i = 0; i < text.length(); i++) {
            h.type(text.charAt(i));
        }
    }

    private static HungPictures told(String text) {
        HungPictures h = new HungPictures();
        typeAll(h, text);
        int items = (int) text.chars().filter(c -> c == ';').count();
        due("tells() of " + text, h.tells(), items);
        return h;
    }

    private static void dueTells(String text, int want) {
        HungPictures h = new HungPictures();
        typeAll(h, text);
        due("tells() of \"" + text + "\"", h.tells(), want);
        due("count(8) behind \"" + text + "\"", h.count(8), want < 0 ? text.length() : 0);
        due("count(9) behind \"" + text + "\"", h.count(9), want < 0 ? 0 : 1);
    }

    private static void dueFault(String text, int place) {
        dueTells(text, -10 - place);
    }

    private static void dueCounts(HungPictures h, int... want) {
        for (int what = 0; what < want.length; what++) {
            due("count(" + what + ")", h.count(what), want[what]);
        }
    }

    private static void dueBest(HungPictures h, int... want) {
        for (int what = 0; what < want.length; what++) {
            due("best(" + what + ")", h.best(what), want[what]);
        }
        due("best(" + want.length + ")", h.best(want.length), NONE);
    }

    private static void duePlaces(HungPictures h, int p, int... want) {
        for (int what = 0; what < 4; what++) {
            due("places(" + p + ", " + what + ")", h.places(p, what), want[what]);
        }
    }

    private static void newObject() {
        HungPictures h = new HungPictures();
        dueCounts(h, 20, 10, 0, 0, 0, 0, 0, 0, 0, 0, BAD);
        due("best(0)", h.best(0), NONE);
        due("most()", h.most(), 0);
        due("moment(0)", h.moment(0), 0);
        due("moment(1)", h.moment(1), 0);
        due("which(0)", h.which(0), 0);
        due("which(1)", h.which(1), NONE);
        due("undo()", h.undo(), STATE);
        due("back(0)", h.back(0), STATE);
        due("back(1)", h.back(1), STATE);
        due("clear()", h.clear(), 0);
        due("forget()", h.forget(), 0);
    }

    private static void type() {
        HungPictures h = new HungPictures();
        due("type(-1)", h.type(-1), BAD);
        due("type(256)", h.type(256), BAD);
        due("type(least)", h.type(LEAST), BAD);
        due("type(greatest)", h.type(GREATEST), BAD);
        due("count(8)", h.count(8), 0);
        due("type(0)", h.type(0), 1);
        due("type(255)", h.type(255), 2);
        for (int i = 3; i <= 120; i++) {
            due("type(32)", h.type(32), i);
        }
        due("type(32) at 120", h.type(32), FULL);
        due("type(256) at 120", h.type(256), BAD);
        due("type(-1) at 120", h.type(-1), BAD);
        due("count(8)", h.count(8), 120);
    }

    private static void clear() {
        HungPictures h = told("pic 2 2 1 4;");
        due("clear()", h.clear(), 0);
        typeAll(h, "wall 30");
        due("clear()", h.clear(), 7);
        due("count(8)", h.count(8), 0);
        due("count(9)", h.count(9), 1);
        due("clear()", h.clear(), 0);
        due("type(32)", h.type(32), 1);
        due("tells()", h.tells(), 0);
    }

    private static void tells() {
        dueTells("", 0);
        dueTells("   ", 0);
        dueTells("  wall 12 8 1 ;  ", 1);
        dueTells("wall12 8 1;pic3 4 1 5;door5 6;hole3 18;", 4);
        dueFault("wall 12 8 1;pic 3 4 1 5;wall", 24);
        HungPictures h = told("hole 3 18;door 5 6;pic 3 4 1 5;hole 0 0;wall 12 8 1;door 39 40;");
        dueCounts(h, 12, 8, 1, 1, 2, 2, 0, 0, 0, 1);
        due("hole(0, 0)", h.hole(0, 0), 3);
        due("hole(1, 1)", h.hole(1, 1), 0);
        due("door(1, 1)", h.door(1, 1), 40);
        typeAll(h, "pic 1 1 1 1;");
        due("tells()", h.tells(), 1);
        dueCounts(h, 20, 10, 0, 1, 0, 0, 0, 0, 0, 2);
        due("hangs(0, 3)", h.hangs(0, 3), 1);
        due("sees(0, 1)", h.sees(0, 1), 1);
        due("keep(0)", h.keep(0), 1);
        typeAll(h, "wall 9");
        due("tells()", h.tells(), -15);
        dueCounts(h, 20, 10, 0, 1, 0, 1, 1, 1, 6, 3);
        due("picture(0, 4)", h.picture(0, 4), 3);
        h.clear();
        typeAll(h, "pic 2 1 1 1;");
        due("tells()", h.tells(), 1);
        dueCounts(h, 20, 10, 0, 1, 0, 0, 0, 1, 0, 4);
        due("picture(0, 4)", h.picture(0, 4), NONE);
        due("back(0)", h.back(0), 1);
    }

    private static void hangs() {
        HungPictures h = told("wall 20 10 2;pic 4 4 1 5;pic 2 2 0 3;door 10 12;hole 4 22;hole 38 22;");
        due("hangs(-1, 0)", h.hangs(-1, 0), BAD);
        due("hangs(2, 0)", h.hangs(2, 0), BAD);
        due("hangs(0, -1)", h.hangs(0, -1), BAD);
        due("hangs(0, 40)", h.hangs(0, 40), BAD);
        due("hangs(least, 0)", h.hangs(LEAST, 0), BAD);
        due("hangs(0, greatest)", h.hangs(0, GREATEST), BAD);
        due("hangs(0, 39)", h.hangs(0, 39), STATE);
        due("hangs(0, 17)", h.hangs(0, 17), STATE);
        due("hangs(0, 7)", h.hangs(0, 7), STATE);
        due("hangs(0, 11)", h.hangs(0, 11), STATE);
        due("count(9)", h.count(9), 1);
        due("hangs(0, 0)", h.hangs(0, 0), 0);
        due("hangs(0, 12)", h.hangs(0, 12), STATE);
        due("hangs(1, 5)", h.hangs(1, 5), STATE);
        due("hangs(1, 3)", h.hangs(1, 3), STATE);
        due("hangs(1, 6)", h.hangs(1, 6), 1);
        due("count(5)", h.count(5), 3);
        due("hole(2, 0)", h.hole(2, 0), 14);
        due("hole(2, 1)", h.hole(2, 1), 22);
        h.takes(0);
        due("hangs(0, 12)", h.hangs(0, 12), 1);
        h.takes(1);
        due("hangs(1, 9)", h.hangs(1, 9), STATE);
        due("hangs(1, 8)", h.hangs(1, 8), 1);
        h.takes(1);
        due("hangs(1, 17)", h.hangs(1, 17), STATE);
        due("hangs(1, 18)", h.hangs(1, 18), 0);
    }

    private static void takes() {
        HungPictures h = told("pic 2 2 1 4;pic 2 2 1 4;");
        due("takes(-1)", h.takes(-1), BAD);
        due("takes(2)", h.takes(2), BAD);
        due("takes(0)", h.takes(0), STATE);
        h.hangs(0, 7);
        h.hangs(1, 0);
        due("count(6)", h.count(6), 2);
        due("takes(0)", h.takes(0), 7);
        due("takes(0)", h.takes(0), STATE);
        due("takes(1)", h.takes(1), 0);
        due("count(5)", h.count(5), 2);
        due("count(6)", h.count(6), 0);
        due("count(9)", h.count(9), 5);
    }

    private static void fills() {
        HungPictures h = told("pic 2 2 1 4;hole 1 1;hole 2 2;hole 3 3;");
        h.hangs(0, 3);
        due("fills(-1)", h.fills(-1), BAD);
        due("fills(4)", h.fills(4), BAD);
        due("fills(3)", h.fills(3), STATE);
        due("fills(1)", h.fills(1), 3);
        due("hole(0, 0)", h.hole(0, 0), 1);
        due("hole(1, 0)", h.hole(1, 0), 3);
        due("hole(1, 1)", h.hole(1, 1), 3);
        due("hole(2, 0)", h.hole(2, 0), 8);
        due("hole(2, 1)", h.hole(2, 1), 20);
        due("fills(2)", h.fills(2), STATE);
        h.takes(0);
        due("fills(2)", h.fills(2), 2);
        due("fills(2)", h.fills(2), BAD);
        due("fills(0)", h.fills(0), 1);
        due("hole(0, 0)", h.hole(0, 0), 3);
        due("fills(0)", h.fills(0), 0);
        due("fills(0)", h.fills(0), BAD);
    }

    private static void lines() {
        HungPictures h = told("pic 2 2 1 4;pic 3 3 1 4;");
        h.hangs(0, 3);
        h.hangs(1, 6);
        due("lines(4)", h.lines(4), BAD);
        due("lines(21)", h.lines(21), BAD);
        due("lines(10)", h.lines(10), STATE);
        due("count(6)", h.count(6), 2);
        due("lines(5)", h.lines(5), 10);
        due("count(1)", h.count(1), 5);
        due("count(6)", h.count(6), 0);
        due("count(5)", h.count(5), 2);
        due("picture(0, 4)", h.picture(0, 4), NONE);
        due("picture(0, 5)", h.picture(0, 5), 10);
        due("hole(0, 1)", h.hole(0, 1), 20);
        due("lines(20)", h.lines(20), 5);
        due("picture(0, 5)", h.picture(0, 5), 40);
        due("hangs(0, 3)", h.hangs(0, 3), 1);
        due("count(9)", h.count(9), 6);
    }

    private static void undo() {
        HungPictures h = told("wall 30 8 1;pic 2 2 1 4;door 9 10;hole 0 0;");
        h.hangs(0, 3);
        h.takes(0);
        h.fills(0);
        h.lines(9);
        typeAll(h, "wall 15 6 2;");
        h.tells();
        due("count(9)", h.count(9), 6);
        typeAll(h, "pi");
        due("undo() of tells", h.undo(), 5);
        dueCounts(h, 30, 9, 1, 1, 1, 1, 0, 0, 2, 5);
        due("undo() of lines", h.undo(), 4);
        due("count(1)", h.count(1), 8);
        due("undo() of fills", h.undo(), 3);
        due("count(5)", h.count(5), 2);
        due("hole(0, 0)", h.hole(0, 0), 0);
        due("hole(1, 0)", h.hole(1, 0), 8);
        due("undo() of takes", h.undo(), 2);
        due("picture(0, 4)", h.picture(0, 4), 3);
        due("undo() of hangs", h.undo(), 1);
        due("picture(0, 4)", h.picture(0, 4), NONE);
        due("count(5)", h.count(5), 1);
        due("undo() of tells", h.undo(), 0);
        dueCounts(h, 20, 10, 0, 0, 0, 0, 0, 0, 2, 0);
        due("undo()", h.undo(), STATE);
    }

    private static void picture() {
        HungPictures h = told("wall 20 5 0;pic 3 9 9 7;pic 1 8 0 2;");
        int[][] want = {{3, 9, 9, 7, NONE, 1}, {1, 8, 0, 2, NONE, 18}};
        for (int p = 0; p < 2; p++) {
            for (int what = 0; what < 6; what++) {
                due("picture(" + p + ", " + what + ")", h.picture(p, what), want[p][what]);
            }
        }
        h.hangs(1, 0);
        due("picture(1, 4)", h.picture(1, 4), 0);
        due("picture(0, 6)", h.picture(0, 6), NO);
        due("picture(0, -1)", h.picture(0, -1), NO);
        due("picture(2, 0)", h.picture(2, 0), NO);
        due("picture(-1, 0)", h.picture(-1, 0), NO);
        due("picture(greatest, 0)", h.picture(GREATEST, 0), NO);
    }

    private static void hole() {
        HungPictures h = told("pic 3 1 0 1;pic 3 1 0 1;hole 9 21;hole 9 20;");
        due("hole(0, 0)", h.hole(0, 0), 9);
        due("hole(0, 1)", h.hole(0, 1), 21);
        due("hole(0, 2)", h.hole(0, 2), NONE);
        h.hangs(1, 3);
        h.hangs(0, 10);
        due("hole(0, 2)", h.hole(0, 2), 1);
        due("hole(1, 2)", h.hole(1, 2), NONE);
        due("hole(2, 2)", h.hole(2, 2), 0);
        h.takes(1);
        due("hole(0, 2)", h.hole(0, 2), NONE);
        due("hole(3, 0)", h.hole(3, 0), NO);
        due("hole(-1, 0)", h.hole(-1, 0), NO);
        due("hole(0, 3)", h.hole(0, 3), NO);
        due("hole(0, -1)", h.hole(0, -1), NO);
    }

    private static void door() {
        HungPictures h = told("door 5 6;door 0 40;");
        due("door(0, 0)", h.door(0, 0), 5);
        due("door(0, 1)", h.door(0, 1), 6);
        due("door(1, 0)", h.door(1, 0), 0);
        due("door(1, 1)", h.door(1, 1), 40);
        due("door(2, 0)", h.door(2, 0), BAD);
        due("door(-1, 0)", h.door(-1, 0), BAD);
        due("door(0, 2)", h.door(0, 2), BAD);
        due("door(0, -1)", h.door(0, -1), BAD);
    }

    private static void moment() {
        HungPictures h = told("wall 21 10 0;pic 2 2 1 4;pic 3 2 1 9;");
        h.hangs(0, 0);
        due("moment(0)", h.moment(0), -76);
        due("moment(1)", h.moment(1), 76);
        h.hangs(1, 18);
        due("moment(0)", h.moment(0), 86);
        due("moment(1)", h.moment(1), 86);
        h.takes(0);
        due("moment(0)", h.moment(0), 162);
        due("moment(2)", h.moment(2), NO);
        due("moment(-1)", h.moment(-1), NO);
    }

    private static void best() {
        dueBest(told("pic 9 9 9 9;pic 9 9 9 9;pic 9 9 9 9;"));
        dueBest(told("wall 10 5 0;pic 1 1 1 1;door 0 10;"));
        dueBest(told("wall 10 5 9;pic 1 1 1 1;pic 1 1 1 1;"));
        dueBest(told("wall 11 5 9;pic 1 1 1 1;pic 1 1 1 1;"), 2, 0, 9, 0, 0, 1);
        // one picture: the gap is the least one
        dueBest(told("wall 20 5 7;pic 4 1 1 1;"), 1, 0, 7, 8, 0);
        // 20 is the greatest gap
        dueBest(told("wall 40 5 0;pic 1 1 1 1;pic 1 1 1 1;door 5 25;door 0 4;door 26 40;"), 2, 20, 20, 4, 0, 1);
        dueBest(told("wall 40 5 0;pic 1 1 1 1;pic 1 1 1 1;door 5 26;door 0 4;door 27 40;"));
        // fewer new holes go ahead of balance
        dueBest(told("wall 20 5 0;pic 2 2 1 4;hole 2 10;"), 0, 72, 0, 0, 0);
        // of equal ones the least gap, then the least first x, then the least order
        dueBest(told("wall 20 5 0;pic 1 2 1 4;"), 1, 4, 0, 9, 0);
        dueBest(told("wall 21 5 1;pic 2 2 1 4;pic 2 2 1 4;"), 2, 0, 1, 8, 0, 1);
        // balance goes ahead of the gap
        dueBest(told("wall 20 5 1;pic 2 2 1 4;pic 2 2 1 4;"), 2, 0, 2, 7, 0, 1);
        dueBest(told("wall 20 5 1;pic 2 2 1 4;pic 2 2 1 4;pic 2 2 1 4;"), 3, 0, 1, 6, 0, 1, 2);
        // the heavy one stands in the middle
        dueBest(told("wall 20 5 0;pic 2 2 1 1;pic 2 2 1 9;pic 2 2 1 1;"), 3, 0, 0, 7, 0, 1, 2);
        dueBest(told("wall 20 5 0;pic 2 2 1 9;pic 2 2 1 1;pic 2 2 1 1;"), 3, 0, 0, 7, 1, 0, 2);
        HungPictures h = told("wall 20 5 0;pic 2 2 1 4;pic 3 3 1 4;");
        due("best(-1)", h.best(-1), BAD);
        due("best(least)", h.best(LEAST), BAD);
        due("best(greatest)", h.best(GREATEST), NONE);
    }

    private static void places() {
        HungPictures h = told("wall 20 10 1;pic 4 2 1 5;pic 3 2 1 2;door 10 12;hole 11 20;hole 33 20;");
        duePlaces(h, 0, 12, 0, NONE, 6);
        duePlaces(h, 1, 14, 0, 4, 7);
        due("hangs(0, 0)", h.hangs(0, 0), 1);
        duePlaces(h, 1, 9, 5, 15, 17);
        due("places(0, 0)", h.places(0, 0), STATE);
        due("places(0, 3)", h.places(0, 3), STATE);
        due("places(0, 4)", h.places(0, 4), BAD);
        due("places(0, -1)", h.places(0, -1), BAD);
        due("places(1, 4)", h.places(1, 4), BAD);
        due("places(2, 0)", h.places(2, 0), BAD);
        due("places(-1, 0)", h.places(-1, 0), BAD);
        duePlaces(told("wall 10 5 0;pic 9 1 1 1;door 4 5;"), 0, 0, NONE, NONE, NONE);
        h = told("wall 10 5 0;pic 1 1 1 9;pic 1 1 1 1;");
        h.hangs(0, 9);
        duePlaces(h, 1, 9, 0, NONE, 0);
        // of two equal ones the least
        duePlaces(told("wall 10 5 0;pic 1 1 1 1;door 4 6;"), 0, 8, 0, NONE, 3);
        duePlaces(told("wall 40 5 0;pic 1 1 1 1;hole 79 9;"), 0, 40, 0, 39, 19);
    }

    private static void most() {
        due("most()", told("wall 10 5 0;pic 5 1 1 1;pic 5 1 1 1;").most(), 3);
        due("most()", told("wall 10 5 1;pic 5 1 1 1;pic 5 1 1 1;").most(), 1);
        due("most()", told("wall 10 5 1;pic 5 1 1 1;pic 5 1 1 2;").most(), 2);
        due("most()", told("wall 10 5 0;pic 9 1 1 9;pic 5 1 1 1;pic 5 1 1 1;").most(), 6);
        due("most()", told("wall 10 5 0;pic 1 1 1 1;door 0 10;").most(), 0);
        // 3 wide left of the door, 5 wide right of it: the other order than theirs
        due("most()", told("wall 10 5 9;pic 5 1 1 1;pic 3 1 1 1;door 3 5;").most(), 1);
        due("most()", told("wall 10 5 2;pic 5 1 1 1;pic 3 1 1 1;door 3 5;").most(), 3);
        due("most()", told("wall 10 5 3;pic 5 1 1 1;pic 3 1 1 2;door 3 5;").most(), 2);
        HungPictures h = told("wall 10 5 0;pic 5 1 1 1;pic 5 1 1 1;pic 1 1 1 1;");
        due("hangs(2, 4)", h.hangs(2, 4), 1);
        due("most()", h.most(), 3);
        due("most()", told("pic1 1 1 1;pic1 1 1 1;pic1 1 1 1;pic1 1 1 1;pic1 1 1 1;").most(), 31);
    }

    private static void sees() {
        HungPictures h = new HungPictures();
        due("sees(-1, 0)", h.sees(-1, 0), BAD);
        due("sees(4, 0)", h.sees(4, 0), BAD);
        due("sees(0, -100)", h.sees(0, -100), BAD);
        due("sees(0, 100)", h.sees(0, 100), BAD);
        due("sees(0, -99)", h.sees(0, -99), 1);
        due("sees(1, 99)", h.sees(1, 99), 2);
        due("sees(2, 0)", h.sees(2, 0), 3);
        due("sees(3, 0)", h.sees(3, 0), 4);
        due("sees(3, 0)", h.sees(3, 0), 5);
        due("sees(3, 0)", h.sees(3, 0), 6);
        due("sees(3, 0)", h.sees(3, 0), FULL);
        due("sees(4, 0)", h.sees(4, 0), BAD);
        due("sees(0, 100)", h.sees(0, 100), BAD);
        due("count(7)", h.count(7), 6);
        due("count(9)", h.count(9), 0);
    }

    private static void forget() {
        HungPictures h = told("pic 2 2 1 4;");
        h.sees(0, 3);
        h.sees(1, 2);
        due("which(0)", h.which(0), 0);
        due("forget()", h.forget(), 2);
        due("forget()", h.forget(), 0);
        due("count(7)", h.count(7), 0);
        due("which(0)", h.which(0), 1);
        due("sees(0, 2)", h.sees(0, 2), 1);
    }

    private static void which() {
        HungPictures h = told("pic 2 4 1 4;pic 3 4 1 4;pic 3 5 1 4;pic 3 5 2 6;");
        due("which(0)", h.which(0), 4);
        due("which(1)", h.which(1), 0);
        due("which(2)", h.which(2), BAD);
        due("which(-1)", h.which(-1), BAD);
        h.sees(0, 3);
        due("which(0)", h.which(0), 3);
        due("which(1)", h.which(1), 1);
        h.sees(1, 5);
        due("which(0)", h.which(0), 2);
        due("which(1)", h.which(1), 2);
        h.sees(3, 21);
        due("which(0)", h.which(0), 1);
        due("which(1)", h.which(1), 3);
        h.lines(11);
        due("which(1)", h.which(1), NONE);
        h.undo();
        h.sees(2, 6);
        due("which(0)", h.which(0), 1);
        h.sees(2, 4);
        due("which(0)", h.which(0), 0);
        due("which(1)", h.which(1), NONE);
    }

    private static void keepAndBack() {
        HungPictures h = told("wall 30 8 1;pic 2 2 1 4;pic 2 2 1 4;door 9 10;hole 0 0;");
        due("keep(-1)", h.keep(-1), BAD);
        due("keep(2)", h.keep(2), BAD);
        due("back(-1)", h.back(-1), BAD);
        due("back(2)", h.back(2), BAD);
        due("back(0)", h.back(0), STATE);
        h.hangs(0, 3);
        due("keep(0)", h.keep(0), 1);
        due("back(1)", h.back(1), STATE);
        h.hangs(1, 12);
        due("keep(1)", h.keep(1), 2);
        due("count(9)", h.count(9), 3);
        h.sees(0, 2);
        typeAll(h, "wall 15 6 2;");
        h.tells();
        typeAll(h, "pic");
        due("back(0)", h.back(0), 1);
        dueCounts(h, 30, 8, 1, 2, 1, 2, 1, 1, 3, 0);
        due("undo()", h.undo(), STATE);
        due("picture(0, 4)", h.picture(0, 4), 3);
        due("picture(1, 4)", h.picture(1, 4), NONE);
        due("hole(1, 0)", h.hole(1, 0), 8);
        due("takes(0)", h.takes(0), 3);
        due("back(1)", h.back(1), 2);
        due("picture(1, 4)", h.picture(1, 4), 12);
        h.takes(1);
        due("back(0)", h.back(0), 1);
        due("keep(1)", h.keep(1), 1);
        h.takes(0);
        due("back(1)", h.back(1), 1);
        due("back(1)", h.back(1), 1);
        due("back(2)", h.back(2), BAD);
    }

    private static void count() {
        HungPictures h = told("wall 30 8 1;pic 2 2 1 4;pic 2 2 1 4;door 9 10;hole 0 0;hole 1 0;hole 2 0;");
        h.hangs(0, 3);
        h.sees(0, 2);
        typeAll(h, "pic 1");
        dueCounts(h, 30, 8, 1, 2, 1, 4, 1, 1, 5, 2);
        due("count(-1)", h.count(-1), BAD);
        due("count(10)", h.count(10), BAD);
        due("count(greatest)", h.count(GREATEST), BAD);
    }

    private static void constants() {
        due("BAD", HungPictures.BAD, BAD);
        due("STATE", HungPictures.STATE, STATE);
        due("FULL", HungPictures.FULL, FULL);
        due("NONE", HungPictures.NONE, NONE);
        due("NO", HungPictures.NO, NO);
    }

    public static void main(String[] args) {
        test("the constants", PromiseTests::constants);
        test("1 a new object", PromiseTests::newObject);
        test("2 type", PromiseTests::type);
        test("3 clear", PromiseTests::clear);
        test("4 tells", PromiseTests::tells);
        test("5 hangs", PromiseTests::hangs);
        test("6 takes", PromiseTests::takes);
        test("7 fills", PromiseTests::fills);
        test("8 lines", PromiseTests::lines);
        test("9 undo", PromiseTests::undo);
        test("10 picture", PromiseTests::picture);
        test("11 hole", PromiseTests::hole);
        test("12 door", PromiseTests::door);
        test("13 moment", PromiseTests::moment);
        test("14 best", PromiseTests::best);
        test("15 places", PromiseTests::places);
        test("16 most", PromiseTests::most);
        test("17 sees", PromiseTests::sees);
        test("18 forget", PromiseTests::forget);
        test("19 which", PromiseTests::which);
        test("20 keep, 21 back", PromiseTests::keepAndBack);
        test("22 count", PromiseTests::count);
        end();
    }
}
