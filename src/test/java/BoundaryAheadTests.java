/** The boundaries that promises 18 to 27 name (what is ahead), a sentence at a time. */
public final class BoundaryAheadTests extends Sentences {
    /** A letter in page 0 that melts a drop a sheet. */
    private static void slowly(IceType x, int ice) {
        x.cast(0, 1, ice);
        x.have(0, 4);
        x.lay(0, 0);
    }

    private static void run() {
        promise(18, "RUN by n (0 .. 99)", x -> {
            slowly(x, 99);
            due(x.run(0, 0), 0);
            due(x.run(0, 1), 1);
            due(x.run(0, 70), 70);
            due(x.run(0, 71), 70);
            due(x.run(0, 99), 70);
        });
        promise(18, "(none of a PAGE that isn't CLEAR, all of one without LETTERS)", x -> {
            slowly(x, 29);
            due(x.run(0, 99), 0);
            due(x.run(0, 0), 0);
            due(x.run(1, 99), 99);
            due(x.run(1, 0), 0);
        });
        promise(18, "(by the first of its LETTERS that isn't read)", x -> {
            castSome(x, 8, 80);
            x.have(1, 0);
            x.set(7, 4, 1);
            for (int i = 0; i < 8; i++) {
                x.lay(2, i);
            }
            due(x.run(2, 99), 11);
        });
        promise(18, "(nothing is pressed)", x -> {
            slowly(x, 99);
            x.run(0, 99);
            due(x.letterIs(0, 3), 99);
            due(x.letterIs(0, 6), 0);
            due(x.pageIs(0, 1), 0);
            due(x.count(2), 901);
        });
        promise(18, "BEYOND: PAGE", x -> beyond(0, 3, v -> x.run(v, 1)));
        promise(18, "BEYOND: n", x -> beyond(0, 99, v -> x.run(0, v)));
    }

    private static void lost() {
        promise(19, "LOST: behind how many SHEETS (0 .. 99)", x -> {
            slowly(x, 128);
            due(x.lost(0), 99);
            x.press(0, 1);
            due(x.lost(0), 98);
            x.press(0, 97);
            due(x.lost(0), 1);
            x.press(0, 1);
            due(x.lost(0), 0);
            x.press(0, 1);
            due(x.lost(0), 0);
        });
        promise(19, "BEYOND", x -> {
            castSome(x, 2, 0);
            x.lay(0, 0);
            x.lay(0, 1);
            due(x.lost(1), 0);
            beyond(0, 1, x::lost);
        });
        promise(19, "STATE: it is in no PAGE", x -> {
            x.cast(0, 1, 0);
            due(x.lost(0), STATE);
            x.lay(0, 0);
            due(x.lost(0), 0);
            x.sort(0);
            due(x.lost(0), STATE);
        });
        promise(19, "NONE: not by 99", x -> {
            slowly(x, 129);
            due(x.lost(0), NONE);
            x.have(0, 5);
            due(x.lost(0), NONE);
        });
        promise(19, "STATE is asked ahead of NONE", x -> {
            x.cast(0, 1, 999);
            due(x.lost(0), STATE);
        });
    }

    private static void then() {
        promise(20, "behind n (0 .. 99) SHEETS", x -> {
            slowly(x, 100);
            due(x.then(0, 0, 3), 100);
            due(x.then(0, 1, 3), 99);
            due(x.then(0, 99, 3), 1);
            due(x.then(0, 0, 6), 0);
            due(x.then(0, 99, 6), 99);
            due(x.letterIs(0, 3), 100);
            due(x.letterIs(0, 6), 0);
        });
        promise(20, "(AGE 99 at most, ICE 0 at least)", x -> {
            slowly(x, 10);
            x.set(0, 6, 98);
            due(x.then(0, 1, 6), 99);
            due(x.then(0, 2, 6), 99);
            due(x.then(0, 10, 3), 0);
            due(x.then(0, 11, 3), 0);
            due(x.then(0, 9, 7), 1);
            due(x.then(0, 10, 7), 0);
        });
        promise(20, "what (0 .. 9) as in letterIs()", x -> {
            x.cast(57, 3, 340);
            x.set(0, 4, 2);
            x.have(2, 0);
            x.lay(1, 0);
            text(x, 1, "g+s");
            x.press(1, 1);
            int[] behind = {5, 7, 3, 340 - 5 * 5 - 1, 2, 1, 5, 6, 9, 8};
            for (int what = 0; what <= 9; what++) {
                due(x.then(0, 4, what), behind[what]);
            }
            x.press(1, 4);
            for (int what = 0; what <= 9; what++) {
                due(x.letterIs(0, what), behind[what]);
            }
        });
        promise(20, "BEYOND: LETTER", x -> {
            castSome(x, 2, 5);
            x.lay(0, 0);
            x.lay(0, 1);
            due(x.then(1, 0, 3), 5);
            beyond(0, 1, v -> x.then(v, 0, 3));
        });
        promise(20, "BEYOND: n", x -> {
            slowly(x, 50);
            beyond(0, 99, v -> x.then(0, v, 3));
        });
        promise(20, "BEYOND: what", x -> {
            slowly(x, 50);
            beyond(0, 9, v -> x.then(0, 0, v));
        });
        promise(20, "STATE: it is in no PAGE", x -> {
            x.cast(0, 1, 50);
            due(x.then(0, 0, 3), STATE);
            due(x.then(0, 100, 3), BEYOND);
            due(x.then(0, 0, 10), BEYOND);
            x.lay(0, 0);
            due(x.then(0, 0, 3), 50);
            x.sort(0);
            due(x.then(0, 0, 3), STATE);
        });
    }

    private static void order() {
        promise(21, "the i-th PAGE of it", x -> {
            castSome(x, 4, 99);
            for (int i = 0; i < 4; i++) {
                x.lay(i, i);
            }
            for (int i = 0; i < 4; i++) {
                due(x.order(1, i), i);
            }
        });
        promise(21, "(i -1: how many SHEETS are CLEAR)", x -> {
            due(x.order(1, -1), 0);
            due(x.order(20, -1), 0);
            slowly(x, 29);
            due(x.order(20, -1), 0);
            x.cast(0, 1, 99);
            x.lay(3, 1);
            due(x.order(1, -1), 1);
            due(x.order(20, -1), 20);
        });
        promise(21, "BEYOND: n", x -> {
            slowly(x, 99);
            beyond(1, 20, v -> x.order(v, -1));
            due(x.order(1, 0), 0);
            due(x.order(20, 0), 0);
        });
        promise(21, "BEYOND: i below -1", x -> {
            slowly(x, 99);
            due(x.order(1, -2), BEYOND);
            due(x.order(1, MIN), BEYOND);
        });
        promise(21, "NONE: there is no i-th", x -> {
            due(x.order(1, 0), NONE);
            slowly(x, 99);
            due(x.order(1, 0), 0);
            due(x.order(1, 1), NONE);
            due(x.order(1, MAX), NONE);
            castSome(x, 3, 99);
            for (int page = 1; page < 4; page++) {
                x.lay(page, page);
                due(x.order(1, page), page);
                due(x.order(1, page + 1), NONE);
            }
        });
        promise(21, "BEYOND is asked ahead of NONE", x -> {
            due(x.order(0, 0), BEYOND);
            due(x.order(21, 9), BEYOND);
        });
        promise(21, "(nothing is pressed)", x -> {
            slowly(x, 99);
            x.cast(0, 1, 50);
            x.lay(1, 1);
            x.order(20, 0);
            due(x.letterIs(0, 3) + x.letterIs(1, 3), 149);
            due(x.letterIs(0, 6) + x.letterIs(1, 6), 0);
            due(x.pageIs(0, 1) + x.pageIs(1, 1), 0);
            due(x.count(2), 851);
        });
    }

    private static void room() {
        promise(22, "ROOM FOR a PAGE by n (0 .. 99)", x -> {
            slowly(x, 99);
            x.have(3, 5);
            x.have(1, 0);
            x.have(2, 4);
            due(x.room(0, 0), 0);
            due(x.room(0, 70), 0);
            due(x.room(0, 71), 3);
            due(x.room(0, 99), 3);
        });
        promise(22, "(of a PAGE without LETTERS, or that isn't CLEAR anywhere, the least)", x -> {
            slowly(x, 29);
            x.have(3, 20);
            due(x.room(0, 99), 0);
            due(x.room(1, 99), 0);
        });
        promise(22, "(nothing moves)", x -> {
            slowly(x, 99);
            x.set(0, 4, 2);
            x.room(0, 99);
            due(x.letterIs(0, 4), 2);
            due(x.letterIs(0, 3), 99);
        });
        promise(22, "BEYOND: PAGE", x -> beyond(0, 3, v -> x.room(v, 1)));
        promise(22, "BEYOND: n", x -> beyond(0, 99, v -> x.room(0, v)));
    }

    private static void needs() {
        promise(23, "NEEDS of a LETTER by n (1 .. 30)", x -> {
            slowly(x, 7);
            due(x.needs(0, 1), 30);
            due(x.needs(0, 30), 59);
            due(x.letterIs(0, 3), 7);
        });
        promise(23, "BEYOND: LETTER", x -> {
            castSome(x, 2, 0);
            x.lay(0, 0);
            x.lay(0, 1);
            due(x.needs(1, 1), 30);
            beyond(0, 1, v -> x.needs(v, 1));
        });
        promise(23, "BEYOND: n", x -> {
            slowly(x, 7);
            beyond(1, 30, v -> x.needs(0, v));
        });
        promise(23, "STATE: it is in no PAGE", x -> {
            x.cast(0, 1, 99);
            due(x.needs(0, 1), STATE);
            due(x.needs(0, 31), BEYOND);
            x.lay(0, 0);
            x.sort(0);
            due(x.needs(0, 1), STATE);
        });
        promise(23, "NONE", x -> {
            slowly(x, 99);
            text(x, 1, "2");
            due(x.needs(0, 1), NONE);
            text(x, 1, "9*(s<1)");
            due(x.needs(0, 1), 0);
            due(x.needs(0, 2), NONE);
        });
        promise(23, "STATE is asked ahead of NONE", x -> {
            x.cast(0, 1, 99);
            text(x, 1, "2");
            due(x.needs(0, 1), STATE);
        });
    }

    private static void said() {
        promise(24, "of a PAGE, WORDS as bits", x -> {
            x.cast(0, 1, 99);
            x.lay(3, 0);
            for (int i = 0; i < 8; i++) {
                word(x, i % 7 == 0 ? "a" : "b");
            }
            due(x.said(3), 1 + 128);
            x.drink(0);
            due(x.said(3), 255);
        });
        promise(24, "(of none without WORDS, or without LETTERS)", x -> {
            due(x.said(0), 0);
            x.cast(0, 1, 99);
            x.lay(0, 0);
            due(x.said(0), 0);
            word(x, "a");
            due(x.said(0), 1);
            due(x.said(1), 0);
        });
        promise(24, "BEYOND", x -> beyond(0, 3, x::said));
    }

    private static void inCase() {
        promise(25, "How many LETTERS are in a CASE", x -> {
            due(x.inCase(1), 0);
            due(x.inCase(26), 0);
            castSome(x, 23, 10);
            x.cast(0, 26, 10);
            due(x.inCase(1), 23);
            due(x.inCase(26), 1);
            due(x.inCase(25), 0);
        });
        promise(25, "(by READ, not by what SEES gives)", x -> {
            x.cast(50, 1, 19);
            x.cast(50, 1, 20);
            text(x, 1, "9*(r<1)");
            due(x.inCase(1), 1);
        });
        promise(25, "BEYOND: GLYPH", x -> beyond(1, 26, x::inCase));
    }

    private static void days() {
        promise(26, "n (1 .. 20) WARM DAYS", x -> {
            IceType y = new IceType();
            x.seed(7);
            y.seed(7);
            due(x.days(20), 0);
            for (int i = 0; i < 20; i++) {
                due(y.days(1), 0);
            }
            for (int what = 9; what < 14; what++) {
                due(x.count(what), y.count(what));
            }
        });
        promise(26, "drops that became MIST", x -> {
            x.cast(0, 1, 500);
            x.drink(0);
            x.cast(0, 1, 400);
            x.have(0, -9);
            int gone = x.days(3);
            due(x.count(4), 500 + gone);
            due(x.letterIs(1, 3), 400 - gone);
            due(gone > 0 ? 1 : 0, 1);
        });
        promise(26, "(none without ICE)", x -> {
            castSome(x, 2, 0);
            x.have(0, -9);
            due(x.days(20), 0);
            due(x.count(4), 0);
        });
        promise(26, "BEYOND", x -> {
            beyond(1, 20, x::days);
            due(x.count(9), 1);
            due(x.count(10), 5);
        });
    }

    private static void seed() {
        promise(27, "z becomes v: what it was (any number)", x -> {
            due(x.seed(MIN), 1);
            due(x.seed(MAX), MIN);
            due(x.seed(0), MAX);
            due(x.seed(-1), 0);
            due(x.seed(1), -1);
        });
        promise(27, "(one that looks like an ERROR is none)", x -> {
            for (int error = BEYOND; error >= PARTED; error--) {
                x.seed(error);
                due(x.count(9), error);
                due(x.seed(1), error);
            }
            due(toldOfAll(x), 0);
        });
    }

    public static void main(String[] args) {
        run();
        lost();
        then();
        order();
        room();
        needs();
        said();
        inCase();
        days();
        seed();
        end(18, 27);
    }
}
