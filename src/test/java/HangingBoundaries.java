/** Promises 5 to 9 at their boundaries: what is HUNG, taken DOWN, FILLED, another LINE, and all of it UNDONE. */
public final class HangingBoundaries extends Checks {
    private static final String ONE = "pic 1 1 0 1;";

    /** The picture can hang at some places, and at others it is refused and nothing is changed. */
    private static void hangsAt(Run wall, int p, int[] free, int[] not) {
        for (int x : free) {
            wall.due("hangs(" + p + ", " + x + ")", 1);
        }
        for (int x : not) {
            wall.dueUnchanged("hangs(" + p + ", " + x + ")", STATE);
        }
    }

    private static int[] at(int... places) {
        return places;
    }

    // ---- hangs()

    private static void placesOnTheWall() {
        Run wide = Run.told("wall 40 5 0;" + ONE);
        wide.due("hangs(0, 0)", 1);
        wide.due("hangs(0, 39)", 1);
        for (int x : at(-1, 40, 41, LEAST, GREATEST)) {
            wide.dueUnchanged("hangs(0, " + x + ")", BAD);
            Run.LIVED.dueUnchanged("hangs(2, " + x + ")", BAD);
        }
        // 39 is a place as told, though this wall ends ahead of it
        Run.told("wall 10 5 0;" + ONE).dueUnchanged("hangs(0, 39)", STATE);
    }

    private static void noSuchPicture(String call) {
        for (int p : at(-1, 0, LEAST, GREATEST)) {
            Run.NEW.dueUnchanged(call.replace("*", "" + p), BAD);
        }
        for (int p : at(-1, 4, 5, LEAST, GREATEST)) {
            Run.LIVED.dueUnchanged(call.replace("*", "" + p), BAD);
        }
        Run.told(ONE.repeat(5)).dueUnchanged(call.replace("*", "5"), BAD);
    }

    private static void whichPictureHangs() {
        noSuchPicture("hangs(*, 12)");
        Run.told(ONE.repeat(5)).due("hangs(4, 12)", 1);
        Run.told(ONE.repeat(5)).then("hangs(4, 12)").due("picture(4, 4)", 12);
        // no picture that was there ahead of the text
        Run.told(ONE.repeat(2)).thenTold(ONE).dueUnchanged("hangs(1, 12)", BAD);
    }

    private static void endsOfTheWall() {
        hangsAt(Run.told("wall 10 5 0;pic 9 1 1 1;"), 0, at(0, 1), at(2, 3));
        hangsAt(Run.told("wall 40 5 0;pic 9 1 1 1;"), 0, at(0, 31), at(32, 39));
        hangsAt(Run.told("wall 17 5 9;pic 4 1 1 1;"), 0, at(0, 13), at(14, 17));
    }

    private static void doorsStayFree() {
        hangsAt(Run.told("pic 3 1 0 1;door 5 7;"), 0, at(2, 7), at(3, 4, 5, 6));
        hangsAt(Run.told("pic 1 1 0 1;door 5 7;"), 0, at(4, 7), at(5, 6));
        hangsAt(Run.told("pic 9 1 0 1;door 9 10;"), 0, at(0, 10), at(1, 5, 9));
        hangsAt(Run.told(ONE + "door 0 1;"), 0, at(1), at(0));
        hangsAt(Run.told(ONE + "door 19 20;"), 0, at(18), at(19));
        // each of three doors, in whatever order they are told
        hangsAt(Run.told(ONE + "door 9 10;door 2 3;door 15 17;"), 0, at(1, 3, 8, 10, 14, 17), at(2, 9, 15, 16));
        // doors that touch or that share a part
        hangsAt(Run.told("pic 2 1 0 1;door 4 8;door 6 10;door 10 12;"), 0, at(2, 12), at(3, 6, 8, 9, 10, 11));
        hangsAt(Run.told("wall 10 5 0;" + ONE + "door 9 40;"), 0, at(8), at(9));
        hangsAt(Run.told("wall 10 5 0;" + ONE + "door 10 40;"), 0, at(9), at(10));
        hangsAt(Run.told(ONE + "door 0 40;"), 0, at(), at(0, 10, 19));
    }

    private static void noGapFromDoorsAndEnds() {
        hangsAt(Run.told("wall 20 5 9;pic 3 1 0 1;door 5 7;"), 0, at(0, 2, 7, 17), at(3, 6, 18));
    }

    private static void apartOnBothSides() {
        for (int gap : at(0, 1, 2, 9)) {
            Run r = Run.told("wall 40 5 " + gap + ";pic 3 1 0 1;pic 2 1 0 1;").then("hangs(0, 18)");
            hangsAt(r, 1, at(16 - gap, 21 + gap), at(17 - gap, 17, 18, 19, 20, 20 + gap));
        }
        // one that begins ahead of the other and ends behind it, or the other way round
        hangsAt(Run.told("pic 9 1 0 1;pic 2 1 0 1;").then("hangs(0, 5)"), 1, at(3, 14), at(4, 8, 13));
        hangsAt(Run.told("pic 2 1 0 1;pic 9 1 0 1;").then("hangs(0, 9)"), 1, at(0, 11), at(1, 5, 9, 10));
    }

    private static void apartFromAll() {
        Run r = Run.told("wall 40 5 2;pic 3 1 0 1;pic 2 1 0 1;pic 1 1 0 1;pic 9 1 0 1;")
                .then("hangs(0, 5)", "hangs(1, 14)", "hangs(2, 30)");
        hangsAt(r, 3, at(18, 19), at(0, 5, 6, 9, 10, 14, 17, 20, 29, 30));
        // a picture that is down again keeps nothing free
        hangsAt(r.then("takes(1)"), 3, at(10, 19), at(9, 20));
        hangsAt(r.then("takes(2)"), 3, at(18, 31), at(17, 32));
    }

    private static void holeMadeOrUsed() {
        // its hook at x = 3 is at 7, 21
        Run.told(ONE + "hole 7 21;").due("hangs(0, 3)", 0);
        Run.told(ONE + "hole 7 21;").then("hangs(0, 3)").due("count(5)", 1);
        Run.told(ONE + "hole 7 20;hole 7 22;hole 6 21;hole 8 21;hole 21 7;").due("hangs(0, 3)", 1);
        Run r = Run.told(ONE + "hole 1 1;").then("hangs(0, 3)");
        r.due("count(5)", 2);
        r.dueEach("hole(1, *)", 7, 21, 0);
        // what was made stays, and is used again
        r.then("takes(0)").due("hangs(0, 3)", 0);
        r.then("takes(0)").due("hangs(0, 4)", 1);
        // the first hole and the last one
        Run.told(ONE + "hole 7 21;hole 1 1;hole 2 2;").due("hangs(0, 3)", 0);
        Run.told(ONE + "hole 1 1;hole 2 2;hole 7 21;").due("hangs(0, 3)", 0);
    }

    private static void farthestHooks() {
        Run.told("wall 40 20 0;pic 1 9 0 1;").then("hangs(0, 39)").dueEach("hole(0, *)", 79, 49, 0);
        Run.told("wall 40 5 0;pic 1 9 9 1;").then("hangs(0, 0)").dueEach("hole(0, *)", 1, 1, 0);
        Run.told("wall 40 5 0;pic 9 9 9 1;").then("hangs(0, 31)").dueEach("hole(0, *)", 71, 1, 0);
    }

    private static void hangsAlready() {
        Run r = Run.told(ONE).then("hangs(0, 3)");
        hangsAt(r, 0, at(), at(0, 3, 4, 19));
        r.then("takes(0)").due("hangs(0, 4)", 1);
        Run.told(ONE).then("hangs(0, 0)").dueUnchanged("hangs(0, 5)", STATE);
        Run.LIVED.dueUnchanged("hangs(0, 12)", STATE);
    }

    private static void holesFull() {
        Run fifteen = Run.told(ONE.repeat(2)).thenHolesMade(15);
        fifteen.due("hangs(0, 15)", 1);
        Run sixteen = fifteen.then("hangs(0, 15)", "takes(0)");
        sixteen.due("count(5)", 16);
        sixteen.dueUnchanged("hangs(0, 16)", FULL);
        sixteen.dueUnchanged("hangs(1, 19)", FULL);
        sixteen.due("hangs(0, 15)", 0);
        sixteen.due("hangs(1, 0)", 0);
        sixteen.then("hangs(0, 15)").dueUnchanged("hangs(1, 16)", FULL);
        sixteen.then("hangs(0, 15)").due("count(5)", 16);
        sixteen.then("fills(3)").due("hangs(0, 16)", 1);
        sixteen.then("fills(3)", "hangs(0, 16)", "takes(0)").dueUnchanged("hangs(0, 3)", FULL);
        // told ones and made ones together
        StringBuilder told = new StringBuilder(ONE);
        for (int k = 0; k < 12; k++) {
            told.append("hole").append(k % 6).append(' ').append(k / 6).append(';');
        }
        Run some = Run.told(told.toString()).thenHolesMade(3);
        some.due("hangs(0, 3)", 1);
        some.then("hangs(0, 3)", "takes(0)").dueUnchanged("hangs(0, 4)", FULL);
        some.then("hangs(0, 3)", "takes(0)").due("hangs(0, 2)", 0);
    }

    private static void hangsRefusedInOrder() {
        Run full = Run.told("pic 1 1 0 1;pic 2 1 0 1;door 18 19;").thenHolesMade(16).then("hangs(0, 0)");
        full.dueUnchanged("hangs(1, 5)", FULL);
        full.dueUnchanged("hangs(0, -1)", BAD);
        full.dueUnchanged("hangs(0, 40)", BAD);
        full.dueUnchanged("hangs(2, 0)", BAD);
        full.dueUnchanged("hangs(-1, 5)", BAD);
        full.dueUnchanged("hangs(0, 17)", STATE);
        full.dueUnchanged("hangs(1, 0)", STATE);
        full.dueUnchanged("hangs(1, 17)", STATE);
        full.dueUnchanged("hangs(1, 39)", STATE);
        Run.LIVED.dueUnchanged("hangs(0, 40)", BAD);
    }

    // ---- takes()

    private static void takenDown() {
        Run r = Run.told("wall 40 5 0;" + ONE.repeat(5)).then("hangs(0, 0)", "hangs(4, 39)");
        r.due("takes(0)", 0);
        r.due("takes(4)", 39);
        r.then("takes(0)").due("takes(4)", 39);
    }

    private static void holesStay() {
        Run r = Run.told("wall 40 5 0;" + ONE.repeat(5)).then("hangs(0, 0)", "hangs(4, 39)", "takes(0)");
        r.due("picture(0, 4)", NONE);
        r.due("picture(4, 4)", 39);
        r.due("count(6)", 1);
        r.due("moment(0)", 39);
        r.due("count(5)", 2);
        r.dueEach("hole(0, *)", 1, 11, NONE);
        r.dueEach("hole(1, *)", 79, 11, 4);
        r.then("takes(4)").due("count(5)", 2);
        r.due("hangs(1, 0)", 0);
    }

    private static void takesRefused() {
        noSuchPicture("takes(*)");
        Run r = Run.told(ONE.repeat(5)).then("hangs(0, 0)");
        r.dueUnchanged("takes(1)", STATE);
        r.dueUnchanged("takes(4)", STATE);
        r.then("takes(0)").dueUnchanged("takes(0)", STATE);
        Run.LIVED.dueUnchanged("takes(2)", STATE);
        r.then("lines(11)").dueUnchanged("takes(0)", STATE);
    }

    // ---- fills()

    private static void holesMoveUp() {
        Run r = Run.told("hole 1 2;hole 3 4;hole 5 6;");
        r.due("fills(0)", 2);
        r.due("fills(2)", 2);
        r.then("fills(0)").dueEach("hole(0, *)", 3, 4);
        r.then("fills(0)").dueEach("hole(1, *)", 5, 6);
        r.then("fills(0)").due("hole(2, 0)", NO);
        r.then("fills(1)").dueEach("hole(0, *)", 1, 2);
        r.then("fills(1)").dueEach("hole(1, *)", 5, 6);
        r.then("fills(2)").dueEach("hole(1, *)", 3, 4);
        r.then("fills(2)").due("hole(2, 0)", NO);
        r.then("fills(2)", "fills(1)").due("fills(0)", 0);
        r.then("fills(2)", "fills(1)", "fills(0)").due("count(5)", 0);
    }

    private static void holeIsNoMore() {
        // it is made again, behind all others
        Run made = Run.told(ONE + "hole 7 21;hole 1 1;").then("fills(0)");
        made.due("hangs(0, 3)", 1);
        made.then("hangs(0, 3)").dueEach("hole(1, *)", 7, 21, 0);
        made.due("places(0, 2)", NONE);
        made.due("best(0)", 1);
        // and it leaves room for another
        Run.told(ONE).thenHolesMade(16).then("fills(0)").due("hangs(0, 19)", 1);
    }

    private static void sixteenthFilled() {
        Run r = Run.told(ONE).thenHolesMade(16);
        r.due("fills(15)", 15);
        r.due("fills(0)", 15);
        r.then("fills(0)").dueEach("hole(14, *)", 31, 21);
        r.then("fills(0)").due("hole(15, 0)", NO);
        r.dueUnchanged("fills(16)", BAD);
        r.then("fills(15)").dueUnchanged("fills(15)", BAD);
    }

    private static void fillsRefused() {
        for (int k : at(-1, 0, 15, 16, LEAST, GREATEST)) {
            Run.NEW.dueUnchanged("fills(" + k + ")", BAD);
        }
        for (int k : at(-1, 5, 15, 16, LEAST, GREATEST)) {
            Run.LIVED.dueUnchanged("fills(" + k + ")", BAD);
        }
        Run.LIVED.due("count(5)", 5);
        Run.LIVED.due("fills(0)", 4);
        Run.LIVED.dueUnchanged("fills(3)", STATE);
        Run.LIVED.dueUnchanged("fills(4)", STATE);
    }

    private static void fillsOfOneInUse() {
        Run r = Run.told(ONE).then("hangs(0, 0)");
        r.dueUnchanged("fills(0)", STATE);
        r.dueUnchanged("fills(1)", BAD);
        r.then("takes(0)").due("fills(0)", 0);
        r.then("takes(0)", "hangs(0, 1)").due("fills(0)", 1);
        r.then("takes(0)", "hangs(0, 1)").dueUnchanged("fills(1)", STATE);
        Run.told("wall 40 5 0;" + ONE).then("hangs(0, 39)").dueUnchanged("fills(0)", STATE);
    }

    private static void holesInUse() {
        // its hook at x = 3 is at 7, 21
        Run r = Run.told(ONE.repeat(2) + "hole 7 20;hole 7 21;hole 8 21;").then("hangs(1, 3)");
        r.due("fills(0)", 2);
        r.dueUnchanged("fills(1)", STATE);
        r.due("fills(2)", 2);
        r.then("fills(0)").dueUnchanged("fills(0)", STATE);
        r.then("fills(0)").due("fills(1)", 1);
        r.then("takes(1)").due("fills(1)", 2);
        r.then("lines(11)").due("fills(1)", 2);
        r.then("lines(11)", "lines(10)").due("fills(1)", 2);
        Run both = Run.told(ONE.repeat(2)).then("hangs(1, 0)", "hangs(0, 1)");
        both.dueUnchanged("fills(0)", STATE);
        both.dueUnchanged("fills(1)", STATE);
        both.then("takes(1)").due("fills(0)", 1);
        both.then("takes(1)").dueUnchanged("fills(1)", STATE);
    }

    // ---- lines()

    private static void lineEdges() {
        Run.NEW.due("lines(5)", 10);
        Run.NEW.due("lines(20)", 10);
        Run.NEW.then("lines(5)").due("lines(20)", 5);
        Run.NEW.then("lines(20)").due("count(1)", 20);
        Run.NEW.then("lines(20)").due("lines(5)", 20);
        for (int l : at(4, 21, 0, -5, LEAST, GREATEST)) {
            Run.NEW.dueUnchanged("lines(" + l + ")", BAD);
            Run.LIVED.dueUnchanged("lines(" + l + ")", BAD);
        }
    }

    private static void sameLine() {
        Run.NEW.dueUnchanged("lines(10)", STATE);
        Run.NEW.then("lines(5)").dueUnchanged("lines(5)", STATE);
        Run.NEW.then("lines(20)").dueUnchanged("lines(20)", STATE);
        Run.NEW.then("lines(5)").due("lines(10)", 5);
        Run.LIVED.dueUnchanged("lines(9)", STATE);
        Run.LIVED.due("lines(8)", 9);
    }

    private static void noneHangBehindLines() {
        Run r = Run.told(ONE.repeat(5)).then("hangs(0, 0)", "hangs(4, 19)").then("lines(11)");
        r.due("count(6)", 0);
        r.due("picture(0, 4)", NONE);
        r.due("picture(4, 4)", NONE);
        r.due("moment(0)", 0);
        r.due("count(5)", 2);
        r.dueEach("hole(1, *)", 39, 21, NONE);
        r.due("picture(0, 5)", 23);
        r.due("hangs(0, 0)", 1);
        r.then("lines(10)").due("hangs(0, 0)", 0);
        r.then("lines(10)").due("count(6)", 0);
    }

    // ---- undo()

    private static void eachKindUndone() {
        Run r = Run.told("wall 30 8 1;pic 3 4 1 5;pic 2 2 0 3;door 5 6;hole 3 18;hole 9 9;")
                .then("sees(0, 3)", "keep(0)", "hangs(0, 0)", "keep(1)", "hangs(1, 6)");
        for (String call : new String[] {"tells()", "takes(0)", "takes(1)", "fills(1)", "lines(5)", "lines(20)"}) {
            r.then(call, "undo()").dueSame(r);
        }
        r.thenTold("wall 12 6 2;pic 1 1 1 1;hole 1 2;").then("undo()").dueSame(r);
        Run down = r.then("takes(0)");
        for (String call : new String[] {"hangs(0, 0)", "hangs(0, 9)", "hangs(0, 27)"}) {
            down.then(call, "undo()").dueSame(down);
        }
        r.then("takes(0)", "fills(0)", "undo()", "undo()").dueSame(r);
    }

    private static void howManyMore() {
        Run r = Run.NEW;
        r.due("count(9)", 0);
        r.dueUnchanged("undo()", STATE);
        for (int done = 1; done <= 6; done++) {
            r = r.then("lines(" + (10 + done) + ")");
            r.due("count(9)", done);
            r.due("undo()", done - 1);
            r.then("undo()").due("count(1)", 9 + done);
            r.then("undo()").due("count(9)", done - 1);
        }
        for (int undone = 1; undone <= 6; undone++) {
            r = r.then("undo()");
            r.due("count(1)", 16 - undone);
        }
        r.dueUnchanged("undo()", STATE);
        r.thenRefused("undo()").due("lines(11)", 10);
        Run.LIVED.then("keep(0)", "back(0)").dueUnchanged("undo()", STATE);
    }

    private static void sixAreKnown() {
        for (int done = 6; done <= 16; done++) {
            Run r = Run.NEW;
            for (int i = 1; i <= done; i++) {
                r = r.then("lines(" + (4 + i) + ")");
            }
            r.due("count(9)", 6);
            Run back = r.then("undo()", "undo()", "undo()", "undo()", "undo()");
            back.due("undo()", 0);
            back.then("undo()").dueUnchanged("undo()", STATE);
            back.then("undo()").due("count(1)", done == 6 ? 10 : 4 + done - 6);
        }
    }

    private static void knownAnewBehindUndo() {
        Run r = Run.NEW.then("lines(11)", "lines(12)", "lines(13)", "lines(14)", "lines(15)", "lines(16)",
                "lines(17)", "lines(18)", "undo()", "undo()", "undo()");
        r.due("count(1)", 15);
        r.due("count(9)", 3);
        Run more = r.then("lines(5)", "lines(6)", "lines(7)", "lines(8)");
        more.due("count(9)", 6);
        Run back = more.then("undo()", "undo()", "undo()", "undo()");
        back.due("count(1)", 15);
        back.then("undo()", "undo()").due("count(1)", 13);
        back.then("undo()", "undo()").dueUnchanged("undo()", STATE);
    }

    private static void onlyThoseCalls() {
        Run r = Run.told(ONE.repeat(2) + "hole 3 3;").then("hangs(0, 3)");
        String[] others = {"type(88)", "clear()", "sees(0, 1)", "forget()", "keep(0)", "keep(1)", "picture(0, 0)",
            "hole(0, 0)", "moment(1)", "best(0)", "places(1, 0)", "most()", "which(0)", "count(0)"};
        for (String call : others) {
            r.then(call).due("count(9)", 2);
            r.then(call, "undo()").due("picture(0, 4)", NONE);
        }
        r.then("takes(0)").due("count(9)", 3);
        r.then("fills(0)").due("count(9)", 3);
        r.then("lines(9)").due("count(9)", 3);
        r.then("hangs(1, 0)").due("count(9)", 3);
        r.then("tells()").due("count(9)", 3);
    }

    private static void refusedIsNotUndone() {
        Run r = Run.told(ONE.repeat(2) + "hole 3 3;").then("hangs(0, 3)");
        String[] refused = {"hangs(0, 4)", "hangs(1, 3)", "hangs(2, 0)", "takes(1)", "takes(2)", "fills(1)",
            "fills(2)", "lines(10)", "lines(4)"};
        for (String call : refused) {
            r.thenRefused(call).then("undo()").due("picture(0, 4)", NONE);
            r.thenRefused(call).due("undo()", 1);
        }
        r.thenTyped("x").thenRefused("tells()").then("undo()").due("picture(0, 4)", NONE);
        r.thenTyped("x").thenRefused("tells()").due("undo()", 1);
    }

    private static void textSeenAndImagesStay() {
        Run r = Run.told(ONE).then("hangs(0, 3)");
        Run later = r.then("sees(0, 2)", "keep(1)").thenTyped(ONE + ONE).then("undo()");
        later.due("count(8)", 24);
        later.due("tells()", 2);
        later.due("count(7)", 1);
        later.due("which(0)", 0);
        later.due("back(1)", 1);
        // the text that was told does not come again
        Run told = Run.typed(ONE).then("tells()", "undo()");
        told.due("count(8)", 0);
        told.due("count(3)", 0);
        told.due("tells()", 0);
        // forgotten and seen as ahead of undo()
        r.then("sees(0, 1)", "takes(0)", "forget()", "undo()").due("count(7)", 0);
        r.then("takes(0)", "sees(0, 1)", "undo()").due("count(7)", 1);
    }

    private static void bestIsUndoneToo() {
        Run r = Run.told("wall 20 5 0;pic 2 2 1 4;").then("hangs(0, 3)");
        r.then("best(0)", "undo()").due("best(0)", 1);
        r.then("best(0)", "undo()").due("best(3)", 9);
        r.then("best(0)", "lines(6)", "best(0)", "undo()").due("best(3)", 3);
    }

    private static void hanging() {
        sentence("HUNG at x (0 .. 39): 1, if a HOLE was made, 0 if there was one.", HangingBoundaries::placesOnTheWall);
        sentence("BAD (a number is not as told, or there is no such thing)", HangingBoundaries::whichPictureHangs);
        sentence("if x is 0 or more, x and WIDE are W at most", HangingBoundaries::endsOfTheWall);
        sentence("and it takes nothing of any DOOR (a DOOR takes what is from FROM to TO)",
                HangingBoundaries::doorsStayFree);
        sentence("Two PICTURES are APART", HangingBoundaries::noGapFromDoorsAndEnds);
        sentence("if what one of them takes ends GAP or more ahead of where the other one begins",
                HangingBoundaries::apartOnBothSides);
        sentence("at an x at which it FITS, APART from all that hang", HangingBoundaries::apartFromAll);
        sentence("if there is no HOLE at its HOOK, one is made there", HangingBoundaries::holeMadeOrUsed);
        sentence("its HOOK is at X: 2 times x and WIDE; Y: 2 times LINE and TALL, less 2 times DROP",
                HangingBoundaries::farthestHooks);
        sentence("STATE: it hangs already, does not FIT, or is not APART from all", HangingBoundaries::hangsAlready);
        sentence("FULL: a HOLE would be made and there are 16.", HangingBoundaries::holesFull);
        sentence("Refused, and nothing changes, the first of these that is so", HangingBoundaries::hangsRefusedInOrder);
    }

    private static void takingAndFilling() {
        sentence("DOWN: the x at which it hung.", HangingBoundaries::takenDown);
        sentence("DOWN: it hangs no more; HOLES stay.", HangingBoundaries::holesStay);
        sentence("BAD; STATE: it does not hang.", HangingBoundaries::takesRefused);
        sentence("is FILLED (those behind it move up): how many are left", HangingBoundaries::holesMoveUp);
        sentence("FILLED: a HOLE is no more", HangingBoundaries::holeIsNoMore);
        sentence("HOLES (16 at most", HangingBoundaries::sixteenthFilled);
        sentence("BAD; STATE: a PICTURE hangs there.", HangingBoundaries::fillsOfOneInUse);
        sentence("The k-th HOLE (0 on) is FILLED", HangingBoundaries::fillsRefused);
        sentence("(none at whose place a HOOK of a PICTURE that hangs is)", HangingBoundaries::holesInUse);
        sentence("LINE is l (5 .. 20): what it was.", HangingBoundaries::lineEdges);
        sentence("BAD; STATE: it is that.", HangingBoundaries::sameLine);
        sentence("LINE made another (none hang then; HOLES stay)", HangingBoundaries::noneHangBehindLines);
    }

    private static void undoing() {
        sentence("all that 1 tells but THE TEXT, and where PICTURES hang, is as ahead of it",
                HangingBoundaries::eachKindUndone);
        sentence("UNDONE: how many more may be. STATE: none.", HangingBoundaries::howManyMore);
        sentence("(6 are known, older ones are lost)", HangingBoundaries::sixAreKnown);
        sentence("(6 are known", HangingBoundaries::knownAnewBehindUndo);
        sentence("UNDONE: the latest tells(), hangs(), takes(), fills(), lines()", HangingBoundaries::onlyThoseCalls);
        sentence("that was not refused", HangingBoundaries::refusedIsNotUndone);
        sentence("all that 1 tells but THE TEXT", HangingBoundaries::textSeenAndImagesStay);
        sentence("is as ahead of it", HangingBoundaries::bestIsUndoneToo);
    }

    public static void main(String[] args) {
        hanging();
        takingAndFilling();
        undoing();
        end();
    }
}
