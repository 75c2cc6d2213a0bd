/** The boundary cases of promises 45 to 50: classes MOVED, EYES, what is GONE and through which HANDS. */
final class ShelvesEdges {
    private ShelvesEdges() {
    }

    static void all() {
        moveBounds();
        moveSize();
        moveUnlike();
        moveOrder();
        moveRoom();
        moveAlike();
        moveMost();
        moveMostOnOne();
        moved();
        eye();
        eyes();
        gone();
        goneByOrder();
        hands();
    }

    /** Two classes on SHELVES 0 and 7 with room for both: ROWS 0, 1, 2. */
    private static Edge two(String sentence) {
        return Edge.of(sentence).lay(0, 10, 20).lay(1, 0, 7).lay(2, 10, 0, 0, 0, 0, 0, 0, 20);
    }

    private static void moveBounds() {
        String[] calls = {"move(#, 5, 4)", "move(5, #, 4)"};
        for (String call : calls) {
            Edge x = Edge.of("45 move: BAD: a ROW").lay(4, 9, 9, 9, 9, 9, 9, 9, 9);
            for (int r : new int[] {0, 1, 2, 3, 5}) {
                x.lay(r, 1);
            }
            x.within(call, 0, 5, Refusal.BAD, Refusal.BAD);
        }
        Edge.of("45 move: BAD: the ROW of rooms").lay(0, 9, 9, 9, 9, 9, 9, 9, 9).lay(5, 9, 9, 9, 9, 9, 9, 9, 9)
            .lay(1, 3).within("move(1, 1, #)", 0, 5);
        two("45 move: NOTHING: a ROW").nothing("move(3, 1, 2)", "move(0, 3, 2)", "move(0, 1, 3)", "move(3, 4, 5)")
            .is("move(0, 1, 2)", 0).run("tear(2)").nothing("move(0, 1, 2)");
    }

    private static void moveSize() {
        two("45 move: SIZE: none").run("row(3, 0)", "row(4, 0)")
            .size("move(3, 4, 2)", "move(3, 1, 2)", "move(0, 4, 2)");
        two("45 move: SIZE: more than 12").run("row(2, 8)", "row(3, 13)", "row(4, 13)").size("move(3, 4, 2)")
            .run("row(3, 12)", "row(4, 12)").is("move(3, 4, 2)", 0).run("row(3, 40)", "row(4, 40)")
            .size("move(3, 4, 2)");
        two("45 move: SIZE: not as many").lay(3, 0).size("move(0, 3, 2)").lay(3, 0, 0, 0)
            .size("move(0, 3, 2)", "move(3, 1, 2)").lay(3, 0, 0).is("move(3, 1, 2)", 0);
        two("45 move: SIZE: not eight rooms").lay(3, 30, 30, 30, 30, 30, 30, 30).size("move(0, 1, 3)")
            .lay(3, 30, 30, 30, 30, 30, 30, 30, 30, 30).size("move(0, 1, 3)").run("row(3, 0)").size("move(0, 1, 3)")
            .lay(3, 30, 30, 30, 30, 30, 30, 30, 30).is("move(0, 1, 3)", 0);
        Edge.of("45 move: one class, and one ROW for all").lay(0, 1, 1, 1, 1, 1, 1, 1, 1).is("move(0, 0, 0)", 7)
            .lay(1, 5).lay(2, 0, 0, 0, 0, 0, 5, 0, 0).is("move(1, 1, 2)", 0).is("moved(0)", 5).none("moved(1)");
    }

    private static void moveUnlike() {
        String[] wrong = {"-1", "100", "MIN", "MAX", "-1", "8", "MIN", "MAX", "-1", "1000", "MIN", "MAX"};
        for (int k = 0; k < 12; k++) {
            int row = k / 4;
            for (int place : new int[] {0, row == 2 ? 7 : 1}) {
                two("45 move: UNLIKE: a number that is none").run("lay(" + row + ", " + place + ", " + wrong[k] + ")")
                    .unlike("move(0, 1, 2)");
            }
        }
        Edge.of("45 move: the greatest numbers are taken").lay(0, 99, 0).lay(1, 7, 0).lay(2, 999, 0, 0, 0, 0, 0, 0, 999)
            .is("move(0, 1, 2)", 0).is("moved(0)", 7).is("moved(1)", 7);
        Edge.of("45 move: the least numbers are taken").lay(0, 0, 0).lay(1, 0, 0).lay(2, 0, 0, 0, 0, 0, 0, 0, 0)
            .is("move(0, 1, 2)", 0).is("moved(0)", 0).is("moved(1)", 0);
    }

    private static void moveOrder() {
        two("45 move: BAD ahead of NOTHING")
            .bad("move(3, 4, 6)", "move(6, 4, 5)", "move(3, -1, 5)", "move(MAX, 3, 3)", "move(3, 3, MIN)");
        two("45 move: NOTHING ahead of SIZE").lay(3, 0).nothing("move(0, 3, 4)", "move(4, 3, 0)", "move(0, 4, 1)");
        two("45 move: SIZE ahead of UNLIKE").lay(3, -1).size("move(0, 3, 2)", "move(3, 1, 2)").lay(3, 1000)
            .size("move(0, 1, 3)").lay(3, 100, 100, 100).size("move(3, 1, 2)");
        two("45 move: UNLIKE ahead of NONE").run("lay(0, 0, 99)", "lay(0, 1, 99)").none("move(0, 1, 2)")
            .run("lay(1, 0, 8)").unlike("move(0, 1, 2)").run("lay(1, 0, 0)").none("move(0, 1, 2)");
    }

    private static void moveRoom() {
        two("45 move: none above its room").is("move(0, 1, 2)", 0).run("lay(2, 0, 9)").none("move(0, 1, 2)")
            .run("lay(2, 0, 10)", "lay(2, 7, 19)").none("move(0, 1, 2)").run("lay(2, 7, 20)").is("move(0, 1, 2)", 0)
            .run("lay(2, 0, 0)", "lay(2, 7, 30)").is("move(0, 1, 2)", 10).run("lay(2, 7, 29)").none("move(0, 1, 2)");
        two("45 move: NONE is no FINDING, and changes nothing").run("lay(2, 7, 19)").none("move(0, 1, 2)")
            .is("finding()", 0).none("moved(0)", "moved(1)");
        Edge.of("45 move: no class on a SHELF ahead of the one before it").lay(0, 5, 5).lay(1, 7, 0)
            .lay(2, 5, 0, 0, 0, 0, 0, 0, 5).is("move(0, 1, 2)", 10).is("moved(0)", 0).is("moved(1)", 7)
            .run("lay(2, 7, 10)").is("move(0, 1, 2)", 5).is("moved(1)", 7).run("lay(2, 0, 10)").is("move(0, 1, 2)", 5)
            .is("moved(0)", 0).is("moved(1)", 0);
    }

    private static void moveAlike() {
        Edge.of("45 move: of alike ones the first by SHELVES of classes").lay(0, 0, 5, 0).lay(1, 7, 3, 0)
            .lay(2, 5, 5, 5, 5, 5, 5, 5, 5).is("move(0, 1, 2)", 0).is("moved(0)", 0).is("moved(1)", 3)
            .is("moved(2)", 3);
        Edge.of("45 move: of alike ones the first").lay(0, 4, 4, 4).lay(1, 5, 4, 3)
            .lay(2, 99, 99, 99, 99, 99, 99, 99, 99).is("move(0, 1, 2)", 8).is("moved(0)", 0).is("moved(1)", 0)
            .is("moved(2)", 3);
        Edge.of("45 move: the fewest books, not the fewest classes").lay(0, 9, 4, 4).lay(1, 5, 4, 3)
            .lay(2, 99, 99, 99, 99, 99, 99, 99, 99).is("move(0, 1, 2)", 8).is("moved(0)", 5).is("moved(1)", 5)
            .is("moved(2)", 5);
    }

    private static void moveMost() {
        Edge x = Edge.of("45 move: 12 classes of 99").lay(0, 99, 99, 99, 99, 99, 99, 99, 99, 99, 99, 99, 99);
        x.lay(1, 7, 7, 7, 7, 7, 7, 7, 7, 7, 7, 7, 7).lay(2, 999, 0, 0, 0, 0, 0, 0, 999).is("move(0, 1, 2)", 198);
        int[] shelves = {0, 0, 7, 7, 7, 7, 7, 7, 7, 7, 7, 7};
        for (int i = 0; i < 12; i++) {
            x.is("moved(" + i + ")", shelves[i]);
        }
        x.none("moved(12)").run("lay(2, 0, 197)").none("move(0, 1, 2)").run("lay(2, 0, 198)").is("move(0, 1, 2)", 198);
        x.run("lay(2, 0, 0)").none("move(0, 1, 2)").lay(1, 0, 0, 0, 0, 0, 0, 0, 0, 0, 0, 0, 0)
            .run("lay(2, 0, 999)", "lay(2, 7, 999)");
        x.is("move(0, 1, 2)", 198).is("moved(9)", 0).is("moved(10)", 7);
    }

    private static void moveMostOnOne() {
        Edge x = Edge.of("45 move: 12 classes on the first SHELF, though there is room behind");
        x.lay(0, 1, 1, 1, 1, 1, 1, 1, 1, 1, 1, 1, 1).lay(1, 0, 0, 0, 0, 0, 0, 0, 0, 0, 0, 0, 0)
            .lay(2, 999, 999, 999, 999, 999, 999, 999, 999).is("move(0, 1, 2)", 0);
        for (int i = 0; i < 12; i++) {
            x.is("moved(" + i + ")", 0);
        }
        x.run("lay(2, 0, 11)").is("move(0, 1, 2)", 1).is("moved(10)", 0).is("moved(11)", 1).none("moved(12)");
    }

    private static void moved() {
        Edge.of("46 moved: NONE: none such, before any")
            .none("moved(0)", "moved(-1)", "moved(11)", "moved(MAX)", "moved(MIN)");
        two("46 moved: NONE: none such").run("move(0, 1, 2)").is("moved(0)", 0).is("moved(1)", 7)
            .none("moved(2)", "moved(-1)", "moved(12)").none("moved(MAX)", "moved(MIN)");
        two("46 moved: the latest move() that was not refused (nor NONE)").run("move(0, 1, 2)").bad("move(0, 1, 6)")
            .nothing("move(0, 1, 5)").size("move(0, 1, 1)").run("lay(0, 0, 11)").none("move(0, 1, 2)").is("moved(0)", 0)
            .is("moved(1)", 7).run("lay(0, 0, 100)").unlike("move(0, 1, 2)").is("moved(0)", 0).is("moved(1)", 7)
            .none("moved(2)");
        two("46 moved: fewer classes than the move() ahead").run("move(0, 1, 2)").lay(0, 20).lay(1, 7)
            .is("move(0, 1, 2)", 0).is("moved(0)", 7).none("moved(1)");
        two("46 moved: ROWS that are changed behind change nothing").run("move(0, 1, 2)", "tear(0)", "lay(1, 1, 3)")
            .is("moved(1)", 7);
    }

    private static void eye() {
        Edge.of("47 eye: BAD: from, till below from").within("eye(#, 9)", 0, 9);
        Edge.of("47 eye: BAD: till").within("eye(5, #)", 5, 99999);
        Edge.of("47 eye: BAD: from, at the end").within("eye(#, 99999)", 0, 99999);
        Edge.of("47 eye: BAD: both are no minutes")
            .bad("eye(-2, -1)", "eye(100000, 100001)", "eye(MIN, MAX)", "eye(MAX, MIN)", "eye(MAX, MAX)")
            .bad("eye(MIN, MIN)");
        Edge x = Edge.of("47 eye: how many there are; FULL beyond 12; BAD ahead of FULL");
        for (int e = 1; e <= 12; e++) {
            x.is("eye(0, " + e + ")", e);
        }
        x.full("eye(0, 0)").bad("eye(5, 4)", "eye(-1, 0)", "eye(0, 100000)").is("count(7)", 12)
            .full("eye(99999, 99999)");
        Edge.of("47 eye: one that is over, one that is to come").run("later(50)").is("eye(0, 49)", 1)
            .is("eye(99999, 99999)", 2);
    }

    private static void eyes() {
        Edge.of("48 eyes: BAD").within("eyes(#)", 0, 99999);
        Edge.of("48 eyes: to a minute (that one, too)").run("eye(5, 7)", "eye(7, 7)", "eye(7, 9)").is("eyes(4)", 0)
            .is("eyes(5)", 1).is("eyes(6)", 1).is("eyes(7)", 3).is("eyes(8)", 1).is("eyes(9)", 1).is("eyes(10)", 0);
        Edge.of("48 eyes: the first minute and the last").run("eye(0, 0)", "eye(99999, 99999)", "eye(0, 99999)")
            .is("eyes(0)", 2).is("eyes(1)", 1).is("eyes(99998)", 1).is("eyes(99999)", 2);
        Edge.of("48 eyes: all 12").times(12, "eye(3, 3)").is("eyes(3)", 12).is("eyes(2)", 0).is("eyes(4)", 0);
    }

    private static void gone() {
        Edge.of("49 gone: BAD").bad("gone(0)").run("book(1, 0, false)", "book(2, 0, false)").within("gone(#)", 0, 1);
        Edge.of("49 gone: NONE: no LOOKS, present alone, absent alone").run("book(1, 0, false)", "book(2, 1, false)")
            .none("gone(0)", "gone(1)").run("along(0)").none("gone(0)").run("lose(1)", "along(1)").none("gone(1)");
        Edge.of("49 gone: absent ahead of present")
            .run("book(1, 0, false)", "lose(0)", "along(0)", "later(5)", "find(0)", "along(0)").none("gone(0)");
        Edge.of("49 gone: minutes between").run("book(1, 0, false)", "along(0)", "lose(0)")
            .run("later(99999)", "along(0)").is("gone(0)", 99999).is("asked()", 0);
        Edge.of("49 gone: NONE leaves asked()").run("book(7, 3, false)").tells("told(0, 1)", 7).none("gone(0)")
            .is("asked()", 7);
        Edge.of("49 gone: the last one present")
            .run("book(1, 0, false)", "along(0)", "later(5)", "along(0)", "lose(0)", "later(7)", "along(0)")
            .is("gone(0)", 7).is("asked()", 5);
        Edge.of("49 gone: a first one absent that is told no more").run("book(1, 0, false)").times(40, "along(0)")
            .run("lose(0)", "along(0)").none("gone(0)", "hands(0)").tells("told(0, 4)", 3);
    }

    private static void goneByOrder() {
        Edge.of("49 gone: by LOOKS' order at one minute").run("book(1, 0, false)", "along(0)", "lose(0)", "along(0)")
            .is("gone(0)", 0).run("find(0)", "along(0)").none("gone(0)", "hands(0)").run("lose(0)", "along(0)")
            .is("gone(0)", 0).is("hands(0)", 0);
        Edge x = Edge.of("49 gone: the first absent one behind")
            .run("book(1, 0, false)", "later(1)", "along(0)", "later(1)", "lose(0)", "along(0)");
        x.is("gone(0)", 1).run("find(0)", "lose(0)", "later(5)", "along(0)").is("count(5)", 3).is("gone(0)", 1)
            .is("asked()", 1);
        Edge.of("49 gone: a LOOK of another BOOK between")
            .run("book(1, 0, false)", "book(2, 0, false)", "along(0)", "lose(0)", "later(3)", "along(0)")
            .is("gone(0)", 3).none("gone(1)");
    }

    /** READER 5 has BOOK 0 from minute 'from' on till 'till' (beyond 30: still); it is seen at 10, and missed at 20. */
    private static Edge held(String sentence, int from, int till) {
        Edge x = Edge.of(sentence).run("book(1, 0, false)").write(2, "1");
        for (int minute = 0; minute <= 20; minute++) {
            if (minute == from - 4) {
                x.run("slip(5, 2, 0)", "send(0, 0)");
            }
            if (minute == till) {
                x.run("back(0, 0)");
            }
            if (minute == 10) {
                x.run("along(0)");
            }
            if (minute == 20) {
                x.run("lose(0)", "along(0)");
            }
            x.run("later(1)");
        }
        return x.is("gone(0)", 10);
    }

    private static void hands() {
        Edge.of("50 hands: BAD").bad("hands(0)").run("book(1, 0, false)", "book(2, 0, false)").within("hands(#)", 0, 1);
        Edge.of("50 hands: NONE: it is not GONE").run("book(1, 0, false)").none("hands(0)").run("along(0)")
            .none("hands(0)");
        held("50 hands: till a minute ahead of the first", 5, 9).is("hands(0)", 0);
        held("50 hands: also at the first of these minutes", 5, 10).is("hands(0)", 32);
        held("50 hands: from a minute behind the first till one ahead of the other", 15, 19).is("hands(0)", 32);
        held("50 hands: also at the other of these minutes", 15, 20).is("hands(0)", 32);
        Edge x = Edge.of("50 hands: from the other's minute on, and from a minute behind it on")
            .run("book(1, 0, false)", "later(2)").asks(3, 1);
        x.asks(4, 1).run("along(0)", "send(0, 0)", "later(4)", "back(0, 1)").asks(0, 1).is("send(1, 1)", 0)
            .is("gone(0)", 4).is("hands(0)", 8);
        x.run("along(1)").none("hands(0)").asks(7, 1).asks(0, 1).run("send(0, 3)", "later(4)", "back(0, 6)")
            .is("send(0, 4)", 0);
        x.is("gone(0)", 4).is("hands(0)", 8 + 128).run("lose(0)", "find(0)").asks(6, 1).run("send(1, 5)", "later(4)")
            .is("has(6)", 1);
        x.is("hands(0)", 8 + 128);
        Edge.of("50 hands: READERS 0 and 7, still").run("book(1, 0, false)", "book(2, 7, false)").asks(0, 1).asks(7, 1)
            .asks(7, 1).run("along(0)", "send(0, 0)", "later(4)", "back(0, 0)", "send(0, 1)", "later(4)", "back(0, 3)")
            .is("send(0, 2)", 0).is("gone(0)", 8).is("hands(0)", 1 + 128);
        Edge.of("50 hands: another BOOK's READER").run("book(1, 0, false)", "book(2, 0, false)").asks(3, 2)
            .run("along(0)", "send(0, 0)", "later(4)").run("lose(0)", "along(0)").is("gone(0)", 4).is("hands(0)", 0);
    }
}
