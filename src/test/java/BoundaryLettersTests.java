/** The boundaries that promises 1 to 17 name (letters; texts, words; pages), a sentence at a time. */
public final class BoundaryLettersTests extends Sentences {
    private static void newObject() {
        promise(1, "All as at first", x -> {
            int[] first = {0, 0, 1000, 0, 0, 0, 0, 0, 0, 1, 5, 5, 5, 5};
            for (int what = 0; what < first.length; what++) {
                due(x.count(what), first[what]);
            }
            for (int page = 0; page < 4; page++) {
                due(x.pageIs(page, 0), 0);
                due(x.pageIs(page, 1), 0);
                due(x.pageIs(page, 3), -1);
                due(x.judge(page, 0), NONE);
            }
            due(x.restore(), NONE);
            due(x.untell(0) + x.untell(1), 0);
        });
        promise(1, "no LETTERS", x -> {
            due(x.letterIs(0, 0), BEYOND);
            due(x.lay(0, 0), BEYOND);
        });
        promise(1, "no WORDS", x -> {
            due(x.said(0), 0);
            due(word(x, "a"), 0);
        });
    }

    private static void cast() {
        promise(2, "the LETTER's number", x -> {
            for (int i = 0; i < 24; i++) {
                due(x.cast(0, 1, 0), i);
            }
        });
        promise(2, "km: 10 times the KIND, and m", x -> {
            due(x.cast(0, 1, 0), 0);
            due(x.cast(69, 1, 0), 1);
            due(x.cast(10, 1, 0), 2);
            due(10 * x.letterIs(0, 0) + x.letterIs(0, 1), 0);
            due(10 * x.letterIs(1, 0) + x.letterIs(1, 1), 69);
            due(10 * x.letterIs(2, 0) + x.letterIs(2, 1), 10);
        });
        promise(2, "BEYOND: km", x -> beyond(0, 69, v -> x.cast(v, 1, 0)));
        promise(2, "BEYOND: GLYPH", x -> beyond(1, 26, v -> x.cast(0, v, 0)));
        promise(2, "BEYOND: ICE", x -> {
            x.have(4, 99999);
            beyond(0, 999, v -> x.cast(0, 1, v));
        });
        promise(2, "BEYOND is asked ahead of STATE", x -> {
            x.have(4, 0);
            due(x.cast(70, 1, 1), BEYOND);
            due(x.cast(0, 0, 1), BEYOND);
            due(x.cast(0, 1, 1000), BEYOND);
        });
        promise(2, "STATE: there is not so much WATER", x -> {
            x.have(4, 5);
            due(x.cast(0, 1, 6), STATE);
            due(x.cast(0, 1, 5), 0);
            due(x.cast(0, 1, 1), STATE);
            due(x.cast(0, 1, 0), 1);
        });
        promise(2, "FULL", x -> {
            castSome(x, 24, 0);
            due(x.cast(0, 1, 0), FULL);
            due(x.cast(0, 1, 999), FULL);
            due(x.count(2), 1000);
        });
        promise(2, "STATE is asked ahead of FULL", x -> {
            castSome(x, 24, 0);
            x.have(4, 5);
            due(x.cast(0, 1, 6), STATE);
            due(x.cast(0, 1, 5), FULL);
            due(x.cast(0, 27, 6), BEYOND);
        });
    }

    private static void letterIs() {
        promise(3, "Of a LETTER: 0 KIND .. 9 what SEES gives", x -> {
            x.cast(57, 3, 340);
            x.set(0, 4, 2);
            x.set(0, 6, 50);
            x.have(2, 0);
            x.lay(1, 0);
            text(x, 1, "g+1");
            int[] facts = {5, 7, 3, 340, 2, 1, 50, 17, 9, 4};
            for (int what = 0; what < facts.length; what++) {
                due(x.letterIs(0, what), facts[what]);
            }
        });
        promise(3, "BEYOND: what", x -> {
            x.cast(0, 1, 0);
            beyond(0, 9, v -> x.letterIs(0, v));
        });
        promise(3, "BEYOND: LETTER", x -> {
            castSome(x, 3, 0);
            due(x.letterIs(2, 2), 1);
            beyond(0, 2, v -> x.letterIs(v, 0));
            castSome(x, 21, 0);
            due(x.letterIs(23, 2), 1);
            beyond(0, 23, v -> x.letterIs(v, 0));
        });
    }

    private static void as() {
        promise(4, "A LETTER as one of a KIND: ICE (of its own KIND, and of those above)", x -> {
            x.cast(30, 1, 77);
            due(x.as(0, 3), 77);
            due(x.as(0, 1), 77);
            due(x.as(0, 0), 77);
            x.set(0, 0, 4);
            due(x.as(0, 4), 77);
            due(x.as(0, 2), 77);
            due(x.as(0, 0), 77);
        });
        promise(4, "BEYOND: LETTER", x -> {
            castSome(x, 2, 7);
            due(x.as(1, 0), 7);
            beyond(0, 1, v -> x.as(v, 0));
        });
        promise(4, "BEYOND: KIND", x -> {
            x.cast(60, 1, 7);
            due(x.as(0, 6), 7);
            beyond(0, 6, v -> x.as(0, v));
        });
        promise(4, "KIND: it is not of that KIND, nor of one under it", x -> {
            String[] of = {"0", "01", "02", "013", "024", "05", "06"};
            x.cast(0, 1, 5);
            for (int is = 0; is < 7; is++) {
                x.set(0, 0, is);
                for (int kind = 0; kind < 7; kind++) {
                    due(x.as(0, kind), of[is].indexOf('0' + kind) >= 0 ? 5 : KIND);
                }
            }
        });
    }

    private static void set() {
        int[] whats = {0, 1, 4, 6};
        int[] most = {6, 9, 3, 99};
        for (int i = 0; i < 4; i++) {
            int what = whats[i];
            int last = most[i];
            promise(5, "KIND (what 0), m (1), ROOM (4), AGE (6) becomes v: what it was; " + what, x -> {
                x.cast(0, 1, 9);
                due(x.set(0, what, last), 0);
                due(x.letterIs(0, what), last);
                due(x.set(0, what, 0), last);
                due(x.letterIs(0, what), 0);
            });
            promise(5, "BEYOND: v of what " + what, x -> {
                x.cast(0, 1, 9);
                x.set(0, what, 1);
                beyond(0, last, v -> x.set(0, what, v));
                due(x.letterIs(0, what), 1);
            });
        }
        promise(5, "BEYOND: what", x -> {
            x.cast(0, 1, 9);
            for (int what : new int[] {2, 3, 5}) {
                for (int v = -1; v <= 2; v++) {
                    due(x.set(0, what, v), BEYOND);
                }
            }
            beyond(0, 6, v -> x.set(0, v, 1));
            due(x.letterIs(0, 2), 1);
            due(x.letterIs(0, 3), 9);
            due(x.letterIs(0, 5), -1);
        });
        promise(5, "BEYOND: LETTER", x -> {
            castSome(x, 2, 0);
            due(x.set(1, 0, 1), 0);
            beyond(0, 1, v -> x.set(v, 0, 1));
        });
    }

    private static void melt() {
        promise(6, "melted into WATER: how much ICE (ICE is 0)", x -> {
            x.cast(0, 1, 999);
            due(x.melt(0), 999);
            due(x.letterIs(0, 3), 0);
            due(x.count(2), 1000);
            due(x.melt(0), 0);
            due(x.count(2), 1000);
        });
        promise(6, "what is above 99999 is MIST", x -> {
            castSome(x, 3, 100);
            x.have(4, 99899);
            x.melt(0);
            due(x.count(2), 99999);
            due(x.count(4), 0);
            x.have(4, 99900);
            due(x.melt(1), 100);
            due(x.count(2), 99999);
            due(x.count(4), 1);
            x.melt(2);
            due(x.count(2), 99999);
            due(x.count(4), 101);
        });
        promise(6, "BEYOND", x -> {
            castSome(x, 2, 5);
            due(x.melt(1), 5);
            beyond(0, 1, x::melt);
        });
        promise(6, "STATE: it is in a PAGE", x -> {
            castSome(x, 2, 5);
            x.lay(0, 0);
            x.lay(3, 1);
            due(x.melt(0), STATE);
            due(x.melt(1), STATE);
            due(x.count(5), 10);
            x.sort(0);
            due(x.melt(0), 5);
        });
    }

    private static void drink() {
        promise(7, "its ICE (0 then) is MIST: how much", x -> {
            x.cast(0, 1, 999);
            due(x.drink(0), 999);
            due(x.letterIs(0, 3), 0);
            due(x.count(4), 999);
            due(x.count(2), 1);
            due(x.drink(0), 0);
            due(x.count(4), 999);
        });
        promise(7, "(one in a PAGE, too)", x -> {
            x.cast(0, 1, 50);
            x.lay(2, 0);
            due(x.drink(0), 50);
            due(x.letterIs(0, 5), 2);
        });
        promise(7, "BEYOND", x -> {
            castSome(x, 2, 5);
            due(x.drink(1), 5);
            beyond(0, 1, x::drink);
        });
    }

    private static void have() {
        promise(8, "becomes v: what it was", x -> {
            due(x.have(0, 20), 5);
            due(x.have(0, -9), 20);
            due(x.have(3, -9), 5);
            due(x.have(4, 99999), 1000);
            due(x.have(4, 0), 99999);
            due(x.have(5, 9999), 0);
            due(x.have(5, 0), 9999);
            due(x.count(10), -9);
            due(x.count(11), 5);
            due(x.count(13), -9);
        });
        promise(8, "BEYOND: what", x -> beyond(0, 5, v -> x.have(v, 0)));
        promise(8, "BEYOND: v of a ROOM, of WATER, of SALT", x -> {
            beyond(-9, 20, v -> x.have(0, v));
            beyond(-9, 20, v -> x.have(3, v));
            beyond(0, 99999, v -> x.have(4, v));
            beyond(0, 9999, v -> x.have(5, v));
            due(x.count(10) + x.count(13), 10);
            due(x.count(2), 1000);
            due(x.count(3), 0);
        });
    }

    private static void feed() {
        promise(9, "The n lowest bytes (1 .. 8)", x -> {
            due(x.feed(0x6463626158575655L, 1), 1);
            due(x.text(0), -10);
            due(x.feed(0x7A62636465666761L, 8), 8);
            due(x.word(), 0);
            due(x.feed(0x41414141414161L, 1), 1);
            due(x.word(), 1);
            due(x.feed(0xFF00000000000061L, 8), 8);
            due(x.word(), -11);
        });
        promise(9, "the lowest first", x -> {
            x.feed(0x2B31L, 2);
            due(x.text(0), -12);
            x.feed(0x312BL, 2);
            due(x.text(0), -10);
        });
        promise(9, "come to THE TAPE (behind what it has)", x -> {
            x.feed('1', 1);
            x.feed('+', 1);
            due(x.feed('2', 1), 3);
            due(x.text(0), 1);
        });
        promise(9, "BEYOND", x -> {
            beyond(1, 8, v -> x.feed(0x61L, v));
            due(x.count(6), 0);
        });
        promise(9, "FULL", x -> {
            for (int i = 1; i <= 7; i++) {
                due(x.feed(0x6161616161616161L, 8), 8 * i);
            }
            due(x.feed(0x6161616161616161L, 8), FULL);
            due(x.feed(0x6161616161L, 5), FULL);
            due(x.count(6), 56);
            due(x.feed(0x61616161L, 4), 60);
            due(x.feed(0x61L, 1), FULL);
            due(x.count(6), 60);
        });
        promise(9, "BEYOND is asked ahead of FULL", x -> {
            feed(x, "a".repeat(60));
            due(x.feed(0x61L, 9), BEYOND);
            due(x.feed(0x61L, 0), BEYOND);
        });
    }

    private static void text() {
        promise(10, "THE TAPE, which is empty then, is the TEXT of a USE", x -> {
            x.cast(60, 1, 99);
            due(text(x, 0, "7"), 1);
            due(x.count(6), 0);
            due(x.letterIs(0, 7), 7);
            due(x.letterIs(0, 9), 9);
            due(text(x, 1, "6"), 1);
            due(x.letterIs(0, 7), 7);
            due(x.letterIs(0, 9), 6);
        });
        promise(10, "in place of one ahead", x -> {
            x.cast(60, 1, 99);
            text(x, 0, "1+2+3+4");
            text(x, 0, "5");
            due(x.letterIs(0, 7), 5);
            text(x, 0, "!!0");
            text(x, 0, "5");
            due(x.letterIs(0, 7), 5);
            text(x, 1, "!!0");
            text(x, 1, "5");
            due(x.letterIs(0, 9), 5);
        });
        promise(10, "BEYOND (THE TAPE stays)", x -> {
            feed(x, "7");
            beyond(0, 1, x::text);
            due(x.count(6), 1);
            due(x.text(0), 1);
        });
        promise(10, "-10 less the FAULT", x -> {
            due(x.text(0), -10);
            due(x.text(1), -10);
            due(text(x, 0, "1+"), -12);
            due(text(x, 0, "+1"), -10);
            due(text(x, 1, "r".repeat(60)), -11);
            due(text(x, 1, "r+".repeat(30)), -70);
        });
        promise(10, "(no ERROR)", x -> {
            x.text(0);
            text(x, 0, "1+");
            due(toldOfAll(x), 0);
        });
        promise(10, "(the one ahead stays)", x -> {
            x.cast(60, 1, 99);
            text(x, 0, "7");
            text(x, 1, "6");
            due(text(x, 0, "8+9)"), -13);
            due(text(x, 1, "8+9)"), -13);
            due(x.letterIs(0, 7), 7);
            due(x.letterIs(0, 9), 6);
            due(x.text(0), -10);
            due(x.letterIs(0, 7), 7);
        });
        promise(10, "(THE TAPE is empty, too)", x -> {
            text(x, 0, "1+");
            due(x.count(6), 0);
            due(text(x, 0, "1"), 1);
        });
    }

    private static void untell() {
        promise(11, "1 if there was, else 0", x -> {
            due(x.untell(0), 0);
            due(x.untell(1), 0);
            text(x, 0, "7");
            due(x.untell(1), 0);
            due(x.untell(0), 1);
            due(x.untell(0), 0);
        });
        promise(11, "There is no TEXT of a USE any more", x -> {
            x.cast(60, 1, 40);
            text(x, 0, "7");
            text(x, 1, "8");
            x.untell(0);
            due(x.letterIs(0, 7), 0);
            due(x.letterIs(0, 9), 8);
            x.untell(1);
            due(x.letterIs(0, 9), 4);
        });
        promise(11, "BEYOND", x -> {
            text(x, 0, "7");
            text(x, 1, "7");
            beyond(0, 1, x::untell);
            due(x.untell(0) + x.untell(1), 2);
        });
    }

    private static void word() {
        promise(12, "THE TAPE, which is empty then, is a WORD: its number", x -> {
            due(word(x, "a"), 0);
            due(x.count(6), 0);
            due(word(x, "azazazaz"), 1);
            due(x.count(1), 2);
        });
        promise(12, "FULL (THE TAPE stays)", x -> {
            for (int i = 0; i < 8; i++) {
                word(x, "a");
            }
            due(word(x, "1+2"), FULL);
            due(x.count(6), 3);
            due(x.count(1), 8);
            due(x.text(0), 1);
            due(x.word(), FULL);
        });
        promise(12, "-10 less the place of the first byte that is none of a .. z", x -> {
            due(word(x, "A"), -10);
            due(word(x, "a`c"), -11);
            due(word(x, "ab{"), -12);
            due(word(x, "abcdefg1"), -17);
            due(word(x, "a\u00e1"), -11);
            due(word(x, "a\0"), -11);
        });
        promise(12, "or the ninth", x -> {
            due(word(x, "abcdefghi"), -18);
            due(word(x, "abcdefgh1"), -18);
            due(word(x, "abcdefghi1"), -18);
            due(word(x, "abcdefg1i"), -17);
            due(word(x, "a".repeat(60)), -18);
        });
        promise(12, "or 0 (-10) if there is none", x -> due(x.word(), -10));
        promise(12, "(no ERROR)", x -> {
            x.word();
            word(x, "A");
            word(x, "abcdefghi");
            due(toldOfAll(x), 0);
        });
        promise(12, "(no WORD then, and THE TAPE is empty)", x -> {
            word(x, "abc1");
            due(x.count(6), 0);
            due(x.count(1), 0);
            due(word(x, "a"), 0);
        });
    }

    private static void decree() {
        promise(13, "THE TAPE, which is empty then", x -> {
            decree(x, "abc");
            due(x.count(6), 0);
            due(x.count(1), 0);
        });
        promise(13, "is a DECREE: the place", x -> {
            x.cast(0, 1, 10);
            due(x.decree(), 0);
            due(decree(x, "b"), 0);
            due(decree(x, "a"), 1);
            due(decree(x, "aa"), 1);
            due(decree(x, "a".repeat(60)), 1);
        });
        promise(13, "(no LETTER is used up by it)", x -> {
            x.cast(0, 1, 10);
            decree(x, "a");
            due(decree(x, "a"), 1);
            due(x.inCase(1), 1);
        });
    }

    private static void lay() {
        promise(14, "A LETTER comes behind a PAGE: how many it has", x -> {
            castSome(x, 8, 0);
            for (int i = 0; i < 8; i++) {
                due(x.lay(3, 7 - i), i + 1);
                due(x.pageIs(3, 3 + i), 7 - i);
            }
            due(x.letterIs(0, 5), 3);
        });
        promise(14, "BEYOND: PAGE", x -> {
            x.cast(0, 1, 0);
            beyond(0, 3, v -> x.lay(v, 0));
            due(x.letterIs(0, 5), -1);
        });
        promise(14, "BEYOND: LETTER", x -> {
            castSome(x, 2, 0);
            beyond(0, 1, v -> x.lay(0, v));
            due(x.lay(0, 1), 1);
        });
        promise(14, "STATE: it is in a PAGE", x -> {
            x.cast(0, 1, 0);
            x.lay(0, 0);
            due(x.lay(0, 0), STATE);
            due(x.lay(1, 0), STATE);
            due(x.pageIs(0, 0), 1);
            due(x.pageIs(1, 0), 0);
            due(x.lay(4, 0), BEYOND);
        });
        promise(14, "FULL", x -> {
            castSome(x, 9, 0);
            for (int i = 0; i < 8; i++) {
                x.lay(0, i);
            }
            due(x.lay(0, 8), FULL);
            due(x.letterIs(8, 5), -1);
            due(x.lay(1, 8), 1);
        });
        promise(14, "STATE is asked ahead of FULL", x -> {
            castSome(x, 9, 0);
            for (int i = 0; i < 8; i++) {
                x.lay(0, i);
            }
            x.lay(1, 8);
            due(x.lay(0, 8), STATE);
            due(x.lay(0, 7), STATE);
        });
    }

    private static void sort() {
        promise(15, "All LETTERS go out of a PAGE: how many", x -> {
            castSome(x, 9, 10);
            for (int i = 0; i < 8; i++) {
                x.lay(1, i);
            }
            x.lay(2, 8);
            due(x.sort(1), 8);
            for (int i = 0; i < 8; i++) {
                due(x.letterIs(i, 5), -1);
                due(x.pageIs(1, 3 + i), -1);
            }
            due(x.letterIs(8, 5), 2);
            due(x.pageIs(1, 0), 0);
        });
        promise(15, "(those of other PAGES stay)", x -> {
            castSome(x, 24, 10);
            x.lay(2, 0);
            x.lay(1, 23);
            x.lay(3, 22);
            due(x.sort(1), 1);
            due(x.letterIs(0, 5), 2);
            due(x.letterIs(23, 5), -1);
            due(x.letterIs(22, 5), 3);
            due(x.sort(0), 0);
            due(x.letterIs(0, 5), 2);
        });
        promise(15, "(none in an empty one)", x -> {
            due(x.sort(0), 0);
            x.cast(0, 1, 0);
            x.lay(0, 0);
            x.sort(0);
            due(x.sort(0), 0);
            due(x.lay(0, 0), 1);
        });
        promise(15, "(SHEETS stay)", x -> {
            x.press(0, 7);
            x.sort(0);
            due(x.pageIs(0, 1), 7);
        });
        promise(15, "BEYOND", x -> beyond(0, 3, x::sort));
    }

    private static void pageIs() {
        promise(16, "0 how many LETTERS, 1 SHEETS, 2 SEEN", x -> {
            due(x.pageIs(3, 0), 0);
            due(x.pageIs(3, 1), 0);
            due(x.pageIs(3, 2), 9);
            x.cast(0, 1, 45);
            x.lay(3, 0);
            x.press(3, 2);
            due(x.pageIs(3, 0), 1);
            due(x.pageIs(3, 1), 2);
            due(x.pageIs(3, 2), 4);
        });
        promise(16, "3 .. 10 its LETTERS (-1: none there)", x -> {
            castSome(x, 24, 0);
            for (int i = 0; i < 8; i++) {
                for (int what = 3 + i; what <= 10; what++) {
                    due(x.pageIs(0, what), -1);
                }
                x.lay(0, 23 - i);
                due(x.pageIs(0, 3 + i), 23 - i);
            }
            due(x.pageIs(0, 3), 23);
        });
        promise(16, "BEYOND: PAGE", x -> beyond(0, 3, v -> x.pageIs(v, 0)));
        promise(16, "BEYOND: what", x -> beyond(0, 10, v -> x.pageIs(0, v)));
    }

    private static void press() {
        promise(17, "PRESS by n (1 .. 99): how many were CLEAR", x -> {
            x.cast(0, 1, 99);
            x.have(0, 4);
            x.lay(0, 0);
            due(x.press(0, 1), 1);
            due(x.letterIs(0, 3), 98);
            due(x.press(0, 99), 69);
            due(x.letterIs(0, 3), 0);
            due(x.pageIs(0, 1), 100);
            due(x.press(0, 99), 0);
            due(x.press(1, 99), 99);
        });
        promise(17, "(the last LETTER that there may be melts, too)", x -> {
            castSome(x, 24, 10);
            x.have(0, 0);
            x.lay(0, 23);
            due(x.press(0, 1), 0);
            due(x.letterIs(23, 3), 5);
            due(x.letterIs(22, 3), 10);
            due(x.letterIs(0, 3), 10);
        });
        promise(17, "BEYOND: PAGE", x -> beyond(0, 3, v -> x.press(v, 1)));
        promise(17, "BEYOND: n", x -> {
            beyond(1, 99, v -> x.press(0, v));
            due(x.pageIs(0, 1), 0);
        });
        promise(17, "STATE: there would be more than 9999 SHEETS", x -> {
            for (int i = 0; i < 100; i++) {
                x.press(1, 99);
            }
            due(x.press(1, 98), 98);
            due(x.press(1, 2), STATE);
            due(x.press(1, 99), STATE);
            due(x.pageIs(1, 1), 9998);
            due(x.press(1, 1), 1);
            due(x.pageIs(1, 1), 9999);
            due(x.press(1, 1), STATE);
            due(x.press(2, 1), 1);
        });
        promise(17, "BEYOND is asked ahead of STATE", x -> {
            for (int i = 0; i < 101; i++) {
                x.press(1, 99);
            }
            due(x.press(1, 100), BEYOND);
            due(x.press(1, 0), BEYOND);
            due(x.press(1, 1), STATE);
        });
    }

    public static void main(String[] args) {
        newObject();
        cast();
        letterIs();
        as();
        set();
        melt();
        drink();
        have();
        feed();
        text();
        untell();
        word();
        decree();
        lay();
        sort();
        pageIs();
        press();
        end(1, 17);
    }
}
