/** Promises 10 to 13 and 17 to 22 at their boundaries: what is asked, what was SEEN, IMAGES, counts. */
public final class AskingBoundaries extends Checks {
    private static final String TINY = "pic1 1 1 1;";

    /** The call is refused for what = -1, for the first what beyond, and for the farthest ones. */
    private static void whats(Run wall, String call, int beyond, int want) {
        for (int what : new int[] {-1, beyond, LEAST, GREATEST}) {
            wall.dueUnchanged(call.replace("*", "" + what), want);
        }
    }

    // ---- picture(), hole(), door(), moment()

    private static void whatOfPicture() {
        Run r = Run.told("wall 20 8 0;pic 3 9 2 7;pic 1 8 0 2;");
        r.dueEach("picture(0, *)", 3, 9, 2, 7, NONE, 21, NO);
        r.dueEach("picture(1, *)", 1, 8, 0, 2, NONE, 24, NO);
        for (int what = 0; what <= 5; what++) {
            r.then("hangs(0, 4)").then("picture(0, " + what + ")").dueSame(r.then("hangs(0, 4)"));
        }
        whats(r, "picture(0, *)", 6, NO);
        whats(Run.LIVED, "picture(0, *)", 6, NO);
    }

    private static void whosePicture() {
        whats(Run.NEW, "picture(*, 0)", 0, NO);
        whats(Run.LIVED, "picture(*, 0)", 4, NO);
        Run five = Run.told(TINY.repeat(4) + "pic 2 3 1 4;");
        five.due("picture(4, 1)", 3);
        whats(five, "picture(*, 0)", 5, NO);
        Run.told(TINY).then("tells()").dueUnchanged("picture(0, 0)", NO);
    }

    private static void whereItHangs() {
        Run r = Run.told("wall 40 5 0;" + TINY + TINY);
        r.due("picture(0, 4)", NONE);
        r.then("hangs(0, 0)").due("picture(0, 4)", 0);
        r.then("hangs(0, 39)").due("picture(0, 4)", 39);
        r.then("hangs(0, 39)").due("picture(1, 4)", NONE);
        r.then("hangs(0, 39)", "takes(0)").due("picture(0, 4)", NONE);
    }

    private static void hookHeights() {
        Run.told("wall 10 5 0;pic 1 9 9 1;").due("picture(0, 5)", 1);
        Run.told("wall 10 20 0;pic 1 9 0 1;").due("picture(0, 5)", 49);
        Run.told("wall 10 5 0;pic 1 9 9 1;").then("lines(6)").due("picture(0, 5)", 3);
    }

    private static void whatOfHole() {
        Run r = Run.told("pic 3 1 0 1;pic 3 1 0 1;hole 9 21;hole 9 20;");
        r.dueEach("hole(0, *)", 9, 21, NONE, NO);
        r.then("hangs(1, 3)").dueEach("hole(0, *)", 9, 21, 1, NO);
        r.then("hangs(1, 3)").dueEach("hole(1, *)", 9, 20, NONE, NO);
        r.then("hangs(0, 3)").dueEach("hole(0, *)", 9, 21, 0, NO);
        r.then("hangs(1, 3)", "takes(1)").due("hole(0, 2)", NONE);
        whats(r, "hole(0, *)", 3, NO);
        whats(Run.LIVED, "hole(0, *)", 3, NO);
    }

    private static void whichHole() {
        whats(Run.NEW, "hole(*, 0)", 0, NO);
        whats(Run.LIVED, "hole(*, 0)", 5, NO);
        Run.LIVED.dueEach("hole(0, *)", 3, 18, NONE);
        Run.LIVED.dueEach("hole(4, *)", 14, 20, 1);
        Run sixteen = Run.told("pic 1 1 0 1;").thenHolesMade(16);
        sixteen.dueEach("hole(15, *)", 31, 21, NONE);
        whats(sixteen, "hole(*, 0)", 16, NO);
    }

    private static void holesInTheirOrder() {
        Run r = Run.told("hole 80 60;pic 1 1 0 1;hole 0 0;").then("hangs(0, 9)", "takes(0)", "hangs(0, 2)");
        r.dueEach("hole(0, *)", 80, 60, NONE);
        r.dueEach("hole(1, *)", 0, 0, NONE);
        r.dueEach("hole(2, *)", 19, 21, NONE);
        r.dueEach("hole(3, *)", 5, 21, 0);
    }

    private static void doors() {
        Run r = Run.told("door 5 6;door 0 40;door 39 40;");
        r.dueEach("door(0, *)", 5, 6, BAD);
        r.dueEach("door(1, *)", 0, 40, BAD);
        r.dueEach("door(2, *)", 39, 40, BAD);
        whats(r, "door(0, *)", 2, BAD);
        whats(r, "door(*, 0)", 3, BAD);
        whats(Run.NEW, "door(*, 0)", 0, BAD);
        whats(Run.LIVED, "door(*, 1)", 2, BAD);
        whats(Run.LIVED, "door(1, *)", 2, BAD);
        Run.LIVED.dueUnchanged("door(1, 1)", 11);
    }

    private static void moments() {
        Run.NEW.dueEach("moment(*)", 0, 0, NO);
        whats(Run.NEW, "moment(*)", 2, NO);
        whats(Run.LIVED, "moment(*)", 2, NO);
        Run.LIVED.dueUnchanged("moment(0)", 17);
        Run.LIVED.dueUnchanged("moment(1)", 17);
        Run.LIVED.then("takes(0)").dueUnchanged("moment(0)", -48);
        Run.LIVED.then("takes(0)").dueUnchanged("moment(1)", 48);
    }

    private static void leaning() {
        // as far below 0 as BAD and NONE are
        Run.told("wall 10 5 0;pic 9 1 1 1;").then("hangs(0, 0)").dueEach("moment(*)", -1, 1);
        Run.told("wall 10 5 0;pic 9 1 1 9;").then("hangs(0, 0)").dueEach("moment(*)", -9, 9);
        Run.told("wall 10 5 0;pic 9 1 1 1;").then("hangs(0, 1)").dueEach("moment(*)", 1, 1);
        Run.told("wall 10 5 0;pic 8 1 1 9;").then("hangs(0, 1)").dueEach("moment(*)", 0, 0);
        // the farthest ones
        Run five = Run.told("wall40 5 0;" + "pic1 1 1 9;".repeat(5));
        five.then("hangs(0, 0)", "hangs(1, 1)", "hangs(2, 2)", "hangs(3, 3)", "hangs(4, 4)")
                .dueEach("moment(*)", -1575, 1575);
        five.then("hangs(0, 39)", "hangs(1, 38)", "hangs(2, 37)", "hangs(3, 36)", "hangs(4, 35)")
                .dueEach("moment(*)", 1575, 1575);
    }

    // ---- sees(), forget(), which()

    /** Each call that asks, at an ordinary wall and at a bare one. */
    private static void nothingIsChanged() {
        Run.LIVED.dueUnchanged("picture(3, 5)", 20);
        Run.LIVED.dueUnchanged("hole(3, 2)", 0);
        Run.LIVED.dueUnchanged("door(0, 0)", 5);
        Run.LIVED.dueUnchanged("moment(0)", 17);
        Run.LIVED.dueUnchanged("best(4)", 1);
        Run.LIVED.dueUnchanged("places(3, 0)", 13);
        Run.LIVED.dueUnchanged("most()", 15);
        Run.LIVED.dueUnchanged("which(1)", 0);
        Run.LIVED.dueUnchanged("count(8)", 24);
        Run.NEW.dueUnchanged("best(0)", NONE);
        Run.NEW.dueUnchanged("moment(1)", 0);
        Run.NEW.dueUnchanged("which(0)", 0);
        Run.NEW.dueUnchanged("count(0)", 20);
    }

    private static void whatIsSeen() {
        for (int what = 0; what <= 3; what++) {
            Run.NEW.due("sees(" + what + ", 5)", 1);
        }
        whats(Run.NEW, "sees(*, 5)", 4, BAD);
        whats(Run.LIVED, "sees(*, 5)", 4, BAD);
    }

    private static void numbersSeen() {
        Run.NEW.due("sees(0, -99)", 1);
        Run.NEW.due("sees(3, 99)", 1);
        Run.NEW.due("sees(1, 0)", 1);
        for (int n : new int[] {-100, 100, LEAST, GREATEST}) {
            Run.NEW.dueUnchanged("sees(0, " + n + ")", BAD);
            Run.LIVED.dueUnchanged("sees(3, " + n + ")", BAD);
        }
    }

    private static void sixSeen() {
        Run r = Run.told("pic 3 4 1 5;pic 2 2 0 3;");
        for (int seen = 0; seen < 6; seen++) {
            r.due("count(7)", seen);
            r.due("sees(0, 3)", seen + 1);
            r = r.then("sees(0, 3)");
        }
        r.due("count(7)", 6);
        r.due("which(0)", 1);
        r.dueUnchanged("sees(0, 2)", FULL);
        r.dueUnchanged("sees(3, 99)", FULL);
        r.then("forget()").due("sees(0, 2)", 1);
        // what is of the same kind and number is no less one more
        Run.LIVED.then("sees(0, 3)", "sees(0, 3)", "sees(0, 3)", "sees(0, 3)").dueUnchanged("sees(0, 1)", FULL);
    }

    private static void badAheadOfFull() {
        Run full = Run.LIVED.then("sees(0, 3)", "sees(0, 3)", "sees(0, 3)", "sees(0, 3)");
        full.due("count(7)", 6);
        whats(full, "sees(*, 0)", 4, BAD);
        full.dueUnchanged("sees(0, 100)", BAD);
        full.dueUnchanged("sees(0, -100)", BAD);
    }

    private static void forgotten() {
        Run.NEW.dueUnchanged("forget()", 0);
        Run r = Run.told("pic 3 4 1 5;").then("sees(0, 1)", "sees(0, 1)", "sees(0, 1)", "sees(0, 1)", "sees(0, 1)");
        r.due("forget()", 5);
        r.then("sees(0, 1)").due("forget()", 6);
        r.then("forget()").due("which(0)", 1);
        r.then("forget()").due("forget()", 0);
        r.then("forget()").dueSame(Run.told("pic 3 4 1 5;"));
        // what was seen ahead of it is not there again by what is seen behind it
        r.then("forget()", "sees(0, 3)", "sees(1, 4)").due("which(0)", 1);
        Run.LIVED.then("forget()", "sees(0, 3)", "sees(1, 4)").dueSame(Run.LIVED);
    }

    private static void whatOfWhich() {
        Run r = Run.told("pic 2 4 1 4;pic 3 4 1 4;pic 3 5 1 4;");
        r.then("sees(0, 3)").dueEach("which(*)", 2, 1, BAD);
        whats(Run.NEW, "which(*)", 2, BAD);
        whats(Run.LIVED, "which(*)", 2, BAD);
        Run.LIVED.dueUnchanged("which(0)", 2);
        Run.LIVED.dueUnchanged("which(1)", 0);
    }

    private static void nothingSeen() {
        Run.NEW.dueEach("which(*)", 0, NONE);
        Run.told(TINY.repeat(5)).dueEach("which(*)", 5, 0);
        Run.NEW.then("sees(0, 1)").dueEach("which(*)", 0, NONE);
    }

    private static void eachKindSeen() {
        // each but the first differs from it in one thing alone: WIDE, TALL, WEIGHT, Y of its HOOK
        Run r = Run.told("pic 3 6 1 4;pic 2 6 1 4;pic 3 4 0 4;pic 3 6 1 5;pic 3 6 2 4;");
        r.then("sees(0, 2)").dueEach("which(*)", 1, 1);
        r.then("sees(1, 4)").dueEach("which(*)", 1, 2);
        r.then("sees(2, 5)").dueEach("which(*)", 1, 3);
        r.then("sees(3, 22)").dueEach("which(*)", 1, 4);
        r.then("sees(0, 3)").dueEach("which(*)", 4, 0);
        r.then("sees(3, 24)").dueEach("which(*)", 4, 0);
        r.then("sees(3, 24)", "lines(11)").dueEach("which(*)", 1, 4);
        r.then("sees(3, 24)", "lines(20)").dueEach("which(*)", 0, NONE);
    }

    private static void allThatWasSeen() {
        Run r = Run.told("pic 3 6 1 4;pic 2 6 1 4;");
        r.then("sees(0, 3)", "sees(0, 2)").dueEach("which(*)", 0, NONE);
        // the first of six, and the last of six
        Run five = r.then("sees(1, 6)", "sees(1, 6)", "sees(1, 6)", "sees(1, 6)", "sees(1, 6)");
        five.dueEach("which(*)", 2, 0);
        five.then("sees(0, 2)").dueEach("which(*)", 1, 1);
        five.then("sees(0, 4)").dueEach("which(*)", 0, NONE);
        r.then("sees(0, 2)", "sees(1, 6)", "sees(1, 6)", "sees(1, 6)", "sees(1, 6)", "sees(1, 6)")
                .dueEach("which(*)", 1, 1);
        for (int n : new int[] {-99, -3, 0, 99}) {
            r.then("sees(0, " + n + ")").dueEach("which(*)", 0, NONE);
        }
    }

    // ---- keep(), back()

    private static void whichImage() {
        Run r = Run.told(TINY);
        r.due("keep(0)", 0);
        r.due("keep(1)", 0);
        whats(Run.NEW, "keep(*)", 2, BAD);
        whats(Run.LIVED, "keep(*)", 2, BAD);
        whats(Run.NEW, "back(*)", 2, BAD);
        whats(Run.LIVED, "back(*)", 2, BAD);
    }

    private static void howManyHang() {
        Run r = Run.told(TINY.repeat(5));
        r.due("keep(0)", 0);
        Run all = r.then("hangs(0, 0)", "hangs(1, 1)", "hangs(2, 2)", "hangs(3, 3)", "hangs(4, 4)");
        all.due("keep(1)", 5);
        all.then("keep(1)", "takes(2)").due("keep(0)", 4);
        all.then("keep(1)", "takes(2)").due("count(6)", 4);
    }

    private static void howManyHangBehindBack() {
        Run r = Run.told(TINY.repeat(5)).then("keep(0)");
        Run all = r.then("hangs(0, 0)", "hangs(1, 1)", "hangs(2, 2)", "hangs(3, 3)", "hangs(4, 4)", "keep(1)");
        all.due("back(0)", 0);
        all.due("back(1)", 5);
        all.then("takes(2)").due("back(1)", 5);
        all.then("takes(2)", "keep(1)").due("back(1)", 4);
        all.then("back(0)").due("count(6)", 0);
        all.then("back(0)", "back(1)").due("count(6)", 5);
    }

    private static void noneKept() {
        Run r = Run.told(TINY).then("hangs(0, 3)");
        r.dueUnchanged("back(0)", STATE);
        r.dueUnchanged("back(1)", STATE);
        r.then("keep(0)").dueUnchanged("back(1)", STATE);
        r.then("keep(1)").dueUnchanged("back(0)", STATE);
        r.then("keep(0)").due("back(0)", 1);
        r.then("keep(1)").due("back(1)", 1);
        // kept of a bare wall, it is kept
        Run.NEW.then("keep(0)").due("back(0)", 0);
        r.thenRefused("keep(2)").dueUnchanged("back(0)", STATE);
    }

    private static void allComesBack() {
        String[] calls = {"takes(0)", "lines(5)", "fills(0)", "undo()", "tells()", "hangs(3, 27)", "forget()", "clear()"};
        for (int image = 0; image <= 1; image++) {
            String back = "back(" + image + ")";
            Run kept = Run.LIVED.then("clear()", "keep(" + image + ")");
            kept.then(back).dueEach("count(*)", 30, 9, 1, 4, 2, 5, 2, 2, 0, 0);
            for (String call : calls) {
                Run due = call.equals("forget()") ? kept.then("forget()") : kept;
                kept.then(call, back).dueSame(due.then(back));
            }
            kept.thenTold("wall 12 6 2;pic 1 1 1 1;door 1 2;door 3 4;door 5 6;hole 1 2;").then("hangs(0, 8)", back)
                    .dueSame(kept.then(back));
        }
    }

    private static void imageKeptAnew() {
        Run r = Run.LIVED.then("keep(0)", "takes(0)");
        r.due("back(0)", 2);
        r.then("keep(0)").due("back(0)", 1);
        r.then("keep(1)").due("back(0)", 2);
        r.then("keep(1)").due("back(1)", 1);
        // an image stays when it was brought back, whatever is done then
        Run back = r.then("back(0)");
        back.then("takes(0)", "takes(1)", "lines(5)", "fills(0)", "back(0)").dueSame(back);
        back.then("back(0)").dueSame(back);
        // and what is done behind keep() does not change it
        Run.LIVED.then("keep(0)", "fills(0)", "takes(0)", "back(0)").dueSame(Run.LIVED.then("keep(0)", "back(0)"));
    }

    private static void nothingElse() {
        // keep() changes nothing but the image
        Run.LIVED.then("keep(0)").dueSame(Run.LIVED, "back(0)");
        Run.LIVED.then("keep(1)").dueSame(Run.LIVED, "back(1)");
        // THE TEXT and what was SEEN are as ahead of back()
        Run r = Run.LIVED.then("keep(0)", "sees(2, 5)", "type(32)", "back(0)");
        r.due("count(7)", 3);
        r.due("count(8)", 25);
        r.due("tells()", 2);
        Run.LIVED.then("keep(0)", "forget()", "clear()", "back(0)").dueEach("count(*)", 30, 9, 1, 4, 2, 5, 2, 0, 0, 0);
    }

    private static void nothingUndoneBehindBack() {
        Run r = Run.LIVED.then("keep(0)", "back(0)");
        r.due("count(9)", 0);
        r.dueUnchanged("undo()", STATE);
        r.then("takes(0)").due("count(9)", 1);
        r.then("takes(0)").due("undo()", 0);
        r.then("takes(0)", "undo()").dueSame(r);
        r.then("takes(0)", "undo()").dueUnchanged("undo()", STATE);
        // a refused back() leaves what can be undone
        Run.told(TINY).thenRefused("back(0)").due("undo()", 0);
    }

    // ---- count()

    private static void counts() {
        Run.NEW.dueEach("count(*)", 20, 10, 0, 0, 0, 0, 0, 0, 0, 0, BAD);
        Run.LIVED.dueEach("count(*)", 30, 9, 1, 4, 2, 5, 2, 2, 24, 6, BAD);
        whats(Run.NEW, "count(*)", 10, BAD);
        whats(Run.LIVED, "count(*)", 10, BAD);
        for (int what = 0; what <= 9; what++) {
            Run.LIVED.then("count(" + what + ")").dueSame(Run.LIVED);
        }
    }

    private static void farNumbers() {
        for (int n : new int[] {LEAST, GREATEST}) {
            for (int other : new int[] {0, LEAST, GREATEST}) {
                Run.LIVED.dueUnchanged("hangs(" + n + ", " + other + ")", BAD);
                Run.LIVED.dueUnchanged("picture(" + other + ", " + n + ")", NO);
                Run.LIVED.dueUnchanged("hole(" + other + ", " + n + ")", NO);
                Run.LIVED.dueUnchanged("door(" + other + ", " + n + ")", BAD);
                Run.LIVED.dueUnchanged("places(" + other + ", " + n + ")", BAD);
                Run.LIVED.dueUnchanged("sees(" + other + ", " + n + ")", BAD);
            }
        }
    }

    private static void asked() {
        sentence("Of a PICTURE: 0 WIDE, 1 TALL, 2 DROP, 3 WEIGHT", AskingBoundaries::whatOfPicture);
        sentence("Of a PICTURE:", AskingBoundaries::whosePicture);
        sentence("4 where it hangs (NONE)", AskingBoundaries::whereItHangs);
        sentence("5 Y of its HOOK. NO: BAD.", AskingBoundaries::hookHeights);
        sentence("0 X, 1 Y, 2 the PICTURE that hangs there (NONE). NO: BAD.", AskingBoundaries::whatOfHole);
        sentence("Of the k-th HOLE (0 on", AskingBoundaries::whichHole);
        sentence("(0 on, as they were told or made)", AskingBoundaries::holesInTheirOrder);
        sentence("Of the k-th DOOR: 0 FROM, 1 TO. BAD.", AskingBoundaries::doors);
        sentence("MOMENT of all that hang (what = 0), OFF (1). NO: BAD.", AskingBoundaries::moments);
        sentence("below 0: it leans left. OFF: how far MOMENT is from 0.", AskingBoundaries::leaning);
        sentence("What is BAD (NO) where a number may be below 0.", AskingBoundaries::farNumbers);
        sentence("(Nothing is changed.)", AskingBoundaries::nothingIsChanged);
        sentence("9 how many may be UNDONE. BAD.", AskingBoundaries::counts);
    }

    private static void seen() {
        sentence("SEEN (what 0 .. 3;", AskingBoundaries::whatIsSeen);
        sentence("n -99 .. 99): how much there is.", AskingBoundaries::numbersSeen);
        sentence("SEEN (6 at most)", AskingBoundaries::sixSeen);
        sentence("BAD; FULL: 6.", AskingBoundaries::badAheadOfFull);
        sentence("Nothing is SEEN: how much was.", AskingBoundaries::forgotten);
        sentence("WHICH: how many (what = 0), the least (1; NONE). BAD.", AskingBoundaries::whatOfWhich);
        sentence("WHICH: PICTURES by which all that was SEEN is so: how many; the least; NONE.",
                AskingBoundaries::nothingSeen);
        sentence("WIDE (what 0), TALL (1), WEIGHT (2), Y of its HOOK (3) is n.", AskingBoundaries::eachKindSeen);
        sentence("all that was SEEN is so", AskingBoundaries::allThatWasSeen);
    }

    private static void images() {
        sentence("IMAGES 0, 1 keep all that 1 tells", AskingBoundaries::whichImage);
        sentence("An IMAGE is kept: how many PICTURES hang. BAD.", AskingBoundaries::howManyHang);
        sentence("All of that becomes as an IMAGE has it: how many PICTURES hang.",
                AskingBoundaries::howManyHangBehindBack);
        sentence("BAD; STATE: none was kept.", AskingBoundaries::noneKept);
        sentence("All of that becomes as an IMAGE has it", AskingBoundaries::allComesBack);
        sentence("An IMAGE is kept", AskingBoundaries::imageKeptAnew);
        sentence("keep all that 1 tells but THE TEXT, and where PICTURES hang; nothing else", AskingBoundaries::nothingElse);
        sentence("(nothing can be UNDONE behind back())", AskingBoundaries::nothingUndoneBehindBack);
    }

    public static void main(String[] args) {
        asked();
        seen();
        images();
        end();
    }
}
