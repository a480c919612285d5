/** Promises 14 to 16 at their boundaries: BEST ROW, PLACES, MOST AT ONCE. */
public final class BestBoundaries extends Checks {
    private static final String TINY = "pic1 1 1 1;";

    /** Without any number: there is no row. */
    private static void row(String text, int... want) {
        row(Run.told(text), want);
    }

    private static void row(Run wall, int... want) {
        wall.dueEach("best(*)", want);
        for (int what = want.length; what <= 10; what++) {
            wall.due("best(" + what + ")", NONE);
        }
    }

    private static void places(String text, int p, int... want) {
        Run.told(text).dueEach("places(" + p + ", *)", want);
    }

    private static void most(String text, int want) {
        Run.told(text).due("most()", want);
    }

    // ---- best()

    private static void whatOfBest() {
        Run five = Run.told("wall40 5 0;" + "pic8 1 1 1;".repeat(5));
        row(five, 5, 0, 0, 0, 0, 1, 2, 3, 4);
        for (int what : new int[] {-1, LEAST}) {
            Run.NEW.dueUnchanged("best(" + what + ")", BAD);
            five.dueUnchanged("best(" + what + ")", BAD);
            Run.LIVED.dueUnchanged("best(" + what + ")", BAD);
        }
        five.dueUnchanged("best(9)", NONE);
        five.dueUnchanged("best(" + GREATEST + ")", NONE);
        Run.NEW.dueUnchanged("best(" + GREATEST + ")", NONE);
        Run.LIVED.dueUnchanged("best(8)", NONE);
        for (int what = 0; what < 9; what++) {
            five.then("best(" + what + ")").dueSame(five);
        }
    }

    private static void fromLeftToRight() {
        row("wall 12 5 0;pic 1 1 1 1;", 1, 1, 0, 5, 0);
        // the doors leave one order alone
        row("wall 12 5 0;pic 4 1 1 1;pic 3 1 1 1;pic 1 1 1 1;door 3 4;door 5 6;door 10 12;", 3, 8, 1, 0, 1, 2, 0);
    }

    private static void noPictures() {
        row(Run.NEW);
        row("wall 20 5 0;door 1 2;hole 3 4;");
        row(Run.told(TINY).then("best(0)").thenTold("door 1 2;"));
    }

    private static void noRoom() {
        row("wall 10 5 0;pic 5 1 1 1;pic 5 1 1 1;", 2, 0, 0, 0, 0, 1);
        row("wall 10 5 0;pic 5 1 1 1;pic 6 1 1 1;");
        row("wall 11 5 1;pic 5 1 1 1;pic 5 1 1 1;", 2, 0, 1, 0, 0, 1);
        row("wall 10 5 1;pic 5 1 1 1;pic 5 1 1 1;");
        row("wall 36 5 0;" + "pic9 1 1 1;".repeat(4), 4, 0, 0, 0, 0, 1, 2, 3);
        row("wall 35 5 0;" + "pic9 1 1 1;".repeat(4));
        row("wall 40 5 0;" + "pic8 1 1 1;".repeat(4) + "pic9 1 1 1;");
        row("wall 31 5 9;" + TINY.repeat(4), 4, 0, 9, 0, 0, 1, 2, 3);
        row("wall 30 5 9;" + TINY.repeat(4));
        row("wall 40 5 9;" + TINY.repeat(5));
        // the room is there, but not with one gap between each two
        row("wall 10 5 0;" + TINY.repeat(3) + "door 1 3;door 4 9;");
        row("wall 10 5 0;" + TINY.repeat(3) + "door 1 3;door 4 6;door 7 10;", 3, 9, 2, 0, 0, 1, 2);
    }

    private static void leastGap() {
        row("wall 11 5 9;pic 1 1 1 1;pic 1 1 1 1;", 2, 0, 9, 0, 0, 1);
        row("wall 10 5 9;pic 1 1 1 1;pic 1 1 1 1;");
        // the two holes are 1 apart
        String holes = "pic 2 2 1 4;pic 2 2 1 4;hole 2 10;hole 8 10;";
        row("wall 20 5 1;" + holes, 0, 120, 1, 0, 0, 1);
        Run.told("wall 20 5 2;" + holes).due("best(0)", 1);
        // of one picture the gap is the least that it may be
        row("wall 20 5 0;pic 4 1 1 1;", 1, 0, 0, 8, 0);
        row("wall 20 5 9;pic 4 1 1 1;", 1, 0, 9, 8, 0);
    }

    private static void greatestGap() {
        row("wall 40 5 0;pic 1 1 1 1;pic 1 1 1 1;door 0 4;door 5 25;door 26 40;", 2, 20, 20, 4, 0, 1);
        row("wall 40 5 0;pic 1 1 1 1;pic 1 1 1 1;door 0 4;door 5 26;door 27 40;");
        // two old holes 20 apart are both used, two that are 21 apart are not
        row("wall 40 5 0;pic 1 2 1 1;pic 1 2 1 1;hole 1 10;hole 43 10;", 0, 36, 20, 0, 0, 1);
        Run.told("wall 40 5 0;pic 1 2 1 1;pic 1 2 1 1;hole 1 10;hole 45 10;").due("best(0)", 1);
    }

    private static void doorsInTheWay() {
        row("wall 10 5 0;pic 3 1 1 1;door 3 10;", 1, 7, 0, 0, 0);
        row("wall 10 5 0;pic 3 1 1 1;door 2 10;");
        row("wall 10 5 0;pic 3 1 1 1;door 0 7;", 1, 7, 0, 7, 0);
        row("wall 10 5 0;pic 3 1 1 1;door 0 8;");
        // left of the door 3 wide, right of it 5 wide: in the other order than theirs
        row("wall 10 5 0;pic 5 1 1 1;pic 3 1 1 1;door 3 5;", 2, 2, 2, 0, 1, 0);
        row("wall 10 5 3;pic 5 1 1 1;pic 3 1 1 1;door 3 5;");
        // GAP is not kept from doors
        row("wall 10 5 9;pic 4 1 1 1;door 0 3;door 7 10;", 1, 0, 9, 3, 0);
    }

    private static void whatHangsNow() {
        Run r = Run.told("wall 20 5 0;pic 2 2 1 4;pic 2 2 1 4;hole 2 10;");
        row(r, 1, 0, 16, 0, 0, 1);
        row(r.then("hangs(0, 0)"), 1, 0, 16, 0, 0, 1);
        row(r.then("hangs(1, 0)"), 1, 0, 16, 0, 0, 1);
        row(r.then("best(0)", "hangs(1, 0)"), 1, 0, 16, 0, 0, 1);
    }

    private static void asHolesStand() {
        Run r = Run.told("wall 20 5 0;pic 2 2 1 4;");
        row(r, 1, 0, 0, 9, 0);
        Run hung = r.then("best(0)", "hangs(0, 3)");
        row(hung, 0, 48, 0, 3, 0);
        row(hung.then("best(0)", "takes(0)"), 0, 48, 0, 3, 0);
        row(hung.then("takes(0)", "best(0)", "fills(0)"), 1, 0, 0, 9, 0);
        row(hung.then("best(0)", "lines(6)"), 1, 0, 0, 9, 0);
        row(hung.then("best(0)", "undo()"), 1, 0, 0, 9, 0);
        row(hung.then("keep(0)", "undo()", "best(0)", "back(0)"), 0, 48, 0, 3, 0);
        row(hung.then("best(0)", "tells()"));
        // asked again, the row is that of the wall as it is now
        row(r.then("best(0)", "hangs(0, 15)"), 0, 48, 0, 15, 0);
        row(r.then("best(0)").thenTold("pic 2 2 1 4;door 9 11;"), 1, 16, 0, 7, 0);
        row(r.then("best(0)").thenTold("wall 10 5 0;pic 2 2 1 4;pic 3 2 1 4;"), 2, 4, 0, 2, 1, 0);
        // with 16 holes there is a row all the same, though one more could not be made
        Run full = Run.told("pic 1 1 0 1;pic 1 3 0 1;").thenHolesMade(16);
        full.due("best(0)", 1);
    }

    private static void fewestNewHoles() {
        row("wall 20 5 0;pic 2 2 1 4;hole 2 10;", 0, 72, 0, 0, 0);
        // an X or a Y that is another one is no hole for it
        row("wall 20 5 0;pic 2 2 1 4;hole 2 11;hole 2 9;hole 3 10;hole 1 10;", 1, 0, 0, 9, 0);
        // the hole is behind a door, or beyond the wall
        row("wall 20 5 0;pic 2 2 1 4;hole 2 10;door 0 1;", 1, 0, 0, 9, 0);
        row("wall 20 5 0;pic 2 2 1 4;hole 38 10;", 0, 72, 0, 18, 0);
        row("wall 20 5 0;pic 2 2 1 4;hole 40 10;", 1, 0, 0, 9, 0);
        // by one hole two pictures need one new hole
        Run.told("wall 20 5 0;pic 2 2 1 4;pic 2 2 1 4;hole 20 10;").due("best(0)", 1);
        // a hole that one of them alone can use goes ahead of a smaller gap
        row("wall 20 5 0;pic 2 2 1 4;pic 2 4 1 4;hole 38 10;", 1, 0, 16, 0, 1, 0);
        // two holes, each for one of them, go ahead of balance by one of these
        row("wall 10 5 0;pic 2 2 1 1;pic 2 4 1 4;hole 2 10;hole 18 12;", 0, 24, 6, 0, 0, 1);
    }

    private static void thenLeastOff() {
        row("wall 20 5 0;pic 2 2 1 1;", 1, 0, 0, 9, 0);
        row("wall 20 5 0;pic 1 2 1 1;", 1, 1, 0, 9, 0);
        row("wall 20 5 1;pic 2 2 1 4;pic 2 2 1 4;", 2, 0, 2, 7, 0, 1);
        row("wall 20 5 0;pic 2 2 1 4;hole 2 10;hole 36 10;", 0, 64, 0, 17, 0);
        row("wall 20 5 0;pic 2 2 1 4;hole 4 10;hole 38 10;", 0, 64, 0, 1, 0);
    }

    private static void thenLeastGap() {
        row("wall 20 5 0;pic 2 2 1 4;pic 2 2 1 4;", 2, 0, 0, 8, 0, 1);
        row("wall 21 5 0;pic 2 2 1 4;pic 2 2 1 4;", 2, 0, 1, 8, 0, 1);
    }

    private static void thenLeastFirst() {
        row("wall 20 5 0;pic 1 2 1 4;", 1, 4, 0, 9, 0);
        row("wall 10 5 0;pic 1 2 1 2;pic 2 2 1 1;", 2, 0, 0, 3, 1, 0);
    }

    private static void thenLeastOrder() {
        row("wall 20 5 0;" + "pic 2 2 1 4;".repeat(3), 3, 0, 0, 7, 0, 1, 2);
        row("wall 20 5 0;pic 2 2 1 9;pic 2 2 1 1;pic 2 2 1 1;", 3, 0, 0, 7, 1, 0, 2);
        row("wall 20 5 0;pic 2 2 1 1;pic 2 2 1 9;pic 2 2 1 1;", 3, 0, 0, 7, 0, 1, 2);
    }

    // ---- places()

    private static void whatOfPlaces() {
        Run down = Run.told("wall 10 5 0;pic 9 1 1 1;");
        down.dueEach("places(0, *)", 2, 0, NONE, 0);
        Run up = down.then("hangs(0, 0)");
        for (int what : new int[] {-1, 4, LEAST, GREATEST}) {
            down.dueUnchanged("places(0, " + what + ")", BAD);
            up.dueUnchanged("places(0, " + what + ")", BAD);
            Run.LIVED.dueUnchanged("places(2, " + what + ")", BAD);
            Run.LIVED.dueUnchanged("places(0, " + what + ")", BAD);
        }
    }

    private static void whosePlaces() {
        for (int p : new int[] {-1, 0, 5, LEAST, GREATEST}) {
            Run.NEW.dueUnchanged("places(" + p + ", 0)", BAD);
        }
        for (int p : new int[] {-1, 4, 5, LEAST, GREATEST}) {
            Run.LIVED.dueUnchanged("places(" + p + ", 1)", BAD);
        }
        Run.told(TINY.repeat(5)).due("places(4, 0)", 20);
        Run.told(TINY.repeat(5)).dueUnchanged("places(5, 0)", BAD);
    }

    private static void noPlacesOfOneThatHangs() {
        Run r = Run.told(TINY.repeat(2)).then("hangs(0, 0)");
        for (int what = 0; what <= 3; what++) {
            r.dueUnchanged("places(0, " + what + ")", STATE);
            Run.LIVED.dueUnchanged("places(1, " + what + ")", STATE);
        }
        r.due("places(1, 0)", 19);
        r.then("takes(0)").due("places(0, 0)", 20);
        r.then("lines(11)").due("places(0, 0)", 20);
    }

    private static void howManyPlaces() {
        places("wall 40 5 0;" + TINY, 0, 40, 0, NONE, 19);
        places("wall 10 5 0;pic 9 1 1 1;", 0, 2, 0, NONE, 0);
        places("wall 10 5 0;pic 9 1 1 1;door 0 1;", 0, 1, 1, NONE, 1);
        places("wall 10 5 0;pic 9 1 1 1;door 9 10;", 0, 1, 0, NONE, 0);
        places("wall 10 5 0;pic 9 1 1 1;door 9 10;door 0 1;", 0, 0, NONE, NONE, NONE);
        places("wall 10 5 0;pic 9 1 1 1;door 10 40;", 0, 2, 0, NONE, 0);
        places("wall 10 5 0;" + TINY + "door 0 9;", 0, 1, 9, NONE, 9);
        places("wall 10 5 0;" + TINY + "door 0 10;", 0, 0, NONE, NONE, NONE);
        Run.LIVED.dueEach("places(2, *)", 10, 0, NONE, 11);
    }

    private static void apartFromThoseThatHang() {
        Run r = Run.told("wall 20 5 2;pic 3 1 1 1;pic 9 1 1 1;").then("hangs(0, 0)");
        r.dueEach("places(1, *)", 7, 5, NONE, 11);
        Run.told("wall 13 5 2;pic 3 1 1 1;pic 8 1 1 1;").then("hangs(0, 0)").due("places(1, 0)", 1);
        Run.told("wall 13 5 2;pic 3 1 1 1;pic 9 1 1 1;").then("hangs(0, 0)").dueEach("places(1, *)", 0, NONE, NONE, NONE);
        Run.told("wall 13 5 2;pic 3 1 1 1;pic 8 1 1 1;").then("hangs(0, 10)").dueEach("places(1, *)", 1, 0, NONE, 0);
    }

    private static void howeverManyHoles() {
        Run full = Run.told("pic 1 1 0 1;pic 1 3 0 1;").thenHolesMade(16);
        full.dueEach("places(0, *)", 20, 0, 0, 9);
        full.dueEach("places(1, *)", 20, 0, NONE, 9);
        full.dueUnchanged("hangs(1, 9)", FULL);
    }

    private static void leastWithHole() {
        places("wall 40 5 0;" + TINY + "hole 79 9;", 0, 40, 0, 39, 19);
        places("wall 40 5 0;" + TINY + "hole 1 9;", 0, 40, 0, 0, 19);
        places("wall 40 5 0;" + TINY + "hole 51 9;hole 21 9;", 0, 40, 0, 10, 19);
        places("wall 40 5 0;" + TINY + "hole 51 8;hole 52 9;", 0, 40, 0, NONE, 19);
        // a hole where it can't hang is none for it
        places("wall 40 5 0;" + TINY + "hole 21 9;hole 51 9;door 10 11;", 0, 39, 0, 25, 19);
        places("wall 10 5 0;" + TINY + "hole 21 9;", 0, 10, 0, NONE, 4);
        Run r = Run.told("wall 40 5 1;" + TINY + TINY).then("hangs(0, 3)", "takes(0)", "hangs(0, 9)");
        r.due("places(1, 2)", 3);
        r.then("takes(0)", "hangs(0, 2)").due("places(1, 2)", 9);
    }

    private static void leastOffOfAll() {
        // of two alike the least
        places("wall 10 5 0;" + TINY + "door 4 6;", 0, 8, 0, NONE, 3);
        places("wall 10 5 0;" + TINY + "door 3 6;", 0, 7, 0, NONE, 6);
        places("wall 10 5 0;pic 2 1 1 1;", 0, 9, 0, NONE, 4);
        Run r = Run.told("wall 20 5 0;pic 2 1 1 3;pic 2 1 1 3;pic 2 1 1 9;").then("hangs(0, 0)");
        r.due("places(1, 3)", 18);
        r.due("places(2, 3)", 12);
        r.then("takes(0)").due("places(1, 3)", 9);
        Run.told("wall 10 5 0;pic 1 1 1 9;pic 1 1 1 1;").then("hangs(0, 9)").due("places(1, 3)", 0);
        Run.told("wall 10 5 0;pic 1 1 1 9;pic 1 1 1 1;").then("hangs(0, 0)").due("places(1, 3)", 9);
    }

    // ---- most()

    private static void theMost() {
        Run.NEW.dueUnchanged("most()", 0);
        Run.LIVED.dueUnchanged("most()", 15);
        most(TINY, 1);
        most(TINY.repeat(5), 31);
        most("wall 10 5 0;pic 5 1 1 1;pic 5 1 1 1;", 3);
        most("wall 10 5 0;pic 5 1 1 1;pic 6 1 1 1;", 1);
        most("wall 10 5 0;pic 9 1 1 9;pic 5 1 1 1;pic 5 1 1 1;", 6);
        most("wall 40 5 0;" + "pic8 1 1 1;".repeat(5), 31);
        most("wall 39 5 0;" + "pic8 1 1 1;".repeat(5), 15);
        most("wall 10 5 0;" + TINY + "door 0 10;", 0);
        most("wall 10 5 0;" + TINY + "door 0 9;", 1);
    }

    private static void mostKeepsGap() {
        most("wall 10 5 1;pic 5 1 1 1;pic 5 1 1 1;", 1);
        most("wall 11 5 1;pic 5 1 1 1;pic 5 1 1 1;", 3);
        most("wall 11 5 9;pic 1 1 1 1;pic 1 1 1 1;", 3);
        most("wall 10 5 9;pic 1 1 1 1;pic 1 1 1 1;", 1);
        // none is kept from the ends of the wall
        most("wall 10 5 9;pic 9 1 1 1;", 1);
    }

    private static void mostLeavesDoors() {
        most("wall 10 5 0;pic 4 1 1 1;pic 4 1 1 1;door 4 6;", 3);
        most("wall 10 5 0;pic 4 1 1 1;pic 4 1 1 1;door 4 7;", 1);
        most("wall 10 5 0;pic 4 1 1 1;pic 4 1 1 1;door 3 6;", 1);
        most("wall 10 5 2;pic 4 1 1 1;pic 4 1 1 1;door 4 6;", 3);
        most("wall 10 5 3;pic 4 1 1 1;pic 4 1 1 1;door 4 6;", 1);
        most("wall 10 5 9;pic 4 1 1 1;door 0 3;door 7 10;", 1);
    }

    private static void anyOrder() {
        most("wall 10 5 2;pic 5 1 1 1;pic 3 1 1 1;door 3 5;", 3);
        most("wall 10 5 2;pic 3 1 1 1;pic 5 1 1 1;door 3 5;", 3);
        most("wall 12 5 0;pic 3 1 1 1;pic 5 1 1 1;pic 2 1 1 1;door 2 3;door 8 9;", 7);
    }

    private static void thenGreatestWeight() {
        most("wall 10 5 0;pic 5 1 1 1;pic 6 1 1 2;", 2);
        most("wall 10 5 0;pic 5 1 1 2;pic 6 1 1 1;", 1);
        most("wall 10 5 0;pic 5 1 1 1;pic 5 1 1 1;pic 5 1 1 2;", 5);
        most("wall 10 5 0;pic 5 1 1 1;pic 5 1 1 3;pic 5 1 1 2;", 6);
    }

    private static void thenLeastBits() {
        most("wall 10 5 0;pic 5 1 1 1;pic 5 1 1 1;pic 5 1 1 1;", 3);
        most("wall 10 5 0;pic 6 1 1 2;pic 6 1 1 2;", 1);
        most("wall 10 5 0;pic 5 1 1 1;pic 6 1 1 9;pic 5 1 1 1;pic 5 1 1 1;", 5);
    }

    private static void mostWhateverHangs() {
        Run r = Run.told("wall 10 5 0;pic 5 1 1 1;pic 5 1 1 1;pic 1 1 1 1;");
        r.due("most()", 3);
        r.then("hangs(2, 4)").due("most()", 3);
        Run.told("pic 1 1 0 1;pic 1 3 0 1;").thenHolesMade(16).due("most()", 3);
    }

    private static void rows() {
        sentence("NONE: there is none, not so many. BAD (below 0).", BestBoundaries::whatOfBest);
        sentence("4 on: the PICTURES from left to right", BestBoundaries::fromLeftToRight);
        sentence("NONE (also without PICTURES)", BestBoundaries::noPictures);
        sentence("NONE: there is none", BestBoundaries::noRoom);
        sentence("a gap g between each two (g GAP to 20)", BestBoundaries::leastGap);
        sentence("(g GAP to 20)", BestBoundaries::greatestGap);
        sentence("by which all FIT", BestBoundaries::doorsInTheWay);
        sentence("(what hangs now makes no difference)", BestBoundaries::whatHangsNow);
        sentence("by which all FIT as HOLES stand", BestBoundaries::asHolesStand);
        sentence("the fewest that have no HOLE at their HOOK", BestBoundaries::fewestNewHoles);
        sentence("of several the least OFF", BestBoundaries::thenLeastOff);
        sentence("of several the least g", BestBoundaries::thenLeastGap);
        sentence("then the least first x", BestBoundaries::thenLeastFirst);
        sentence("then that order which at the first place at which they differ has the lower number",
                BestBoundaries::thenLeastOrder);
    }

    private static void placesOfOne() {
        sentence("how many (what = 0), the least (1; NONE), the least with a HOLE (2; NONE), that of the least OFF (3; NONE)",
                BestBoundaries::whatOfPlaces);
        sentence("PLACES of a PICTURE:", BestBoundaries::whosePlaces);
        sentence("BAD; STATE: it hangs.", BestBoundaries::noPlacesOfOneThatHangs);
        sentence("PLACES of a PICTURE that does not hang: at which x it FITS", BestBoundaries::howManyPlaces);
        sentence("and is APART from all that hang", BestBoundaries::apartFromThoseThatHang);
        sentence("(however many HOLES there are)", BestBoundaries::howeverManyHoles);
        sentence("the least at which its HOOK has a HOLE", BestBoundaries::leastWithHole);
        sentence("the x by which OFF of all that would hang then is least, of several the least; NONE",
                BestBoundaries::leastOffOfAll);
    }

    private static void mostAtOnce() {
        sentence("MOST AT ONCE, as bits.", BestBoundaries::theMost);
        sentence("GAP kept", BestBoundaries::mostKeepsGap);
        sentence("DOORS left", BestBoundaries::mostLeavesDoors);
        sentence("by their own order from left to right being free", BestBoundaries::anyOrder);
        sentence("that of the most; of several that of the greatest WEIGHT together", BestBoundaries::thenGreatestWeight);
        sentence("of several the least, as bits", BestBoundaries::thenLeastBits);
        sentence("of all sets of PICTURES that can all hang together (anywhere", BestBoundaries::mostWhateverHangs);
    }

    public static void main(String[] args) {
        rows();
        placesOfOne();
        mostAtOnce();
        end();
    }
}
