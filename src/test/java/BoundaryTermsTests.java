/** The boundaries that the Terms name: the ERRORS (0) and points 1 to 5, a sentence at a time. */
public final class BoundaryTermsTests extends Sentences {
    private static int melts(int kind, int m, int ice, int cold, int age) {
        IceType x = new IceType();
        x.cast(10 * kind + m, 1, ice);
        x.have(0, cold);
        x.set(0, 6, age);
        return x.letterIs(0, 7);
    }

    private static int reads(int kind, int m, int ice) {
        IceType x = new IceType();
        x.cast(10 * kind + m, 1, ice);
        return x.letterIs(0, 8);
    }

    /** What a TEXT of DRIPS gives (0 .. 999 can be seen): i 999, c -7, a 11, m 3. */
    private static int gives(String bytes) {
        IceType x = new IceType();
        x.cast(63, 1, 999);
        x.have(0, -7);
        x.set(0, 6, 11);
        due(text(x, 0, bytes), 1);
        return x.letterIs(0, 7);
    }

    private static int faultOf(int use, String bytes) {
        return -10 - text(new IceType(), use, bytes);
    }

    /** What SEES gives of a letter of GLYPH 7 and READ 4, in no page. */
    private static int seesBy(String bytes) {
        IceType x = new IceType();
        x.cast(0, 7, 40);
        due(text(x, 1, bytes), 1);
        return x.letterIs(0, 9);
    }

    private static String times(int n, String bytes) {
        return bytes.repeat(n);
    }

    /** A number with which z is told, so that the rest of the next draw is as asked for. */
    private static int seedFor(int rest) {
        int v = 0;
        while (((v * 1103515245 + 12345) >>> 8) % 7 != rest) {
            v++;
        }
        return v;
    }

    private static void errors() {
        point(0, "LOW - 1 BEYOND", x -> due(x.letterIs(0, 0), -1000000001));
        point(0, "LOW - 2 NONE", x -> due(x.body(0), -1000000002));
        point(0, "LOW - 3 STATE", x -> due(x.cast(0, 1, 999) + x.cast(0, 1, 2), -1000000003));
        point(0, "LOW - 4 FULL", x -> {
            for (int i = 0; i < 24; i++) {
                x.tell(i);
            }
            due(x.tell(24), -1000000004);
        });
        point(0, "LOW - 5 KIND", x -> due(x.cast(0, 1, 9) + x.as(0, 1), -1000000005));
        point(0, "LOW - 6 PARTED", x -> due(x.cast(0, 1, 9) + x.voice(0, 3, 1), -1000000006));
        point(0, "Quotients are cut toward 0", x -> {
            x.cast(2, 1, 0);
            x.cast(0, 1, 0);
            x.cast(0, 1, 0);
            due(x.voice(0, 3, 7), 3);
            due(x.voice(0, 3, -7), -3);
            due(x.voice(2, 3, 7), -3);
            due(x.voice(2, 3, -7), 3);
            due(x.voice(0, 3, -1), 0);
        });
    }

    private static void roomsAndTray() {
        point(1, "ROOMS 0 .. 3", x -> {
            x.cast(0, 1, 9);
            due(x.set(0, 4, 3), 0);
            due(x.letterIs(0, 4), 3);
            due(x.set(0, 4, 0), 3);
            beyond(0, 3, v -> x.set(0, 4, v));
        });
        point(1, "COLD (-9 .. 20; 5 at first, all of them)", x -> {
            for (int room = 0; room < 4; room++) {
                int of = room;
                due(x.count(10 + room), 5);
                due(x.have(room, -9), 5);
                due(x.have(room, 20), -9);
                beyond(-9, 20, v -> x.have(of, v));
                due(x.count(10 + room), 20);
            }
        });
        point(1, "WATER (0 .. 99999 drops; 1000 at first)", x -> {
            due(x.have(4, 0), 1000);
            due(x.have(4, 99999), 0);
            beyond(0, 99999, v -> x.have(4, v));
            due(x.count(2), 99999);
        });
        point(1, "SALT (0 .. 9999 grains; 0 at first)", x -> {
            due(x.have(5, 9999), 0);
            due(x.have(5, 0), 9999);
            beyond(0, 9999, v -> x.have(5, v));
            due(x.count(3), 0);
        });
        point(1, "MIST (0 at first)", x -> due(x.count(4), 0));
    }

    private static void letters() {
        point(1, "at most 24 ever", x -> {
            castSome(x, 24, 10);
            due(x.count(0), 24);
            x.melt(0);
            x.drink(1);
            x.lay(0, 2);
            x.sort(0);
            due(x.cast(0, 1, 0), FULL);
            due(x.count(0), 24);
        });
        point(1, "KINDS 0 .. 6", x -> {
            x.cast(60, 1, 9);
            due(x.letterIs(0, 0), 6);
            beyond(0, 6, v -> x.set(0, 0, v));
            due(x.set(0, 0, 0), 6);
        });
        point(1, "a number m (0 .. 9)", x -> {
            x.cast(9, 1, 9);
            due(x.letterIs(0, 1), 9);
            beyond(0, 9, v -> x.set(0, 1, v));
            due(x.set(0, 1, 0), 9);
        });
        point(1, "a GLYPH (1 .. 26)", x -> {
            x.cast(0, 1, 9);
            x.cast(0, 26, 9);
            beyond(1, 26, v -> x.cast(0, v, 9));
            due(x.letterIs(0, 2), 1);
            due(x.letterIs(1, 2), 26);
        });
        point(1, "ICE (0 .. 999 drops)", x -> {
            x.cast(0, 1, 0);
            x.cast(0, 1, 999);
            x.have(4, 99999);
            beyond(0, 999, v -> x.cast(0, 1, v));
            due(x.letterIs(0, 3), 0);
            due(x.letterIs(1, 3), 999);
        });
        point(1, "in a ROOM (0 at first), in a PAGE (-1: in none, at first), AGE (0 at first)", x -> {
            x.cast(69, 26, 999);
            due(x.letterIs(0, 4), 0);
            due(x.letterIs(0, 5), -1);
            due(x.letterIs(0, 6), 0);
        });
        point(1, "(at first: of a number that a restored IMAGE has taken back, too)", x -> {
            x.image();
            x.cast(0, 1, 9);
            x.set(0, 4, 3);
            x.set(0, 6, 5);
            x.lay(2, 0);
            x.restore();
            due(x.cast(11, 2, 8), 0);
            int[] facts = {1, 1, 2, 8, 0, -1, 0};
            for (int what = 0; what < facts.length; what++) {
                due(x.letterIs(0, what), facts[what]);
            }
        });
        point(1, "AGE in sheets (0 .. 99)", x -> {
            x.cast(0, 1, 9);
            due(x.set(0, 6, 99), 0);
            beyond(0, 99, v -> x.set(0, 6, v));
            due(x.set(0, 6, 0), 99);
        });
    }

    private static void melting() {
        point(1, "LETTER: 5 less COLD of its ROOM, 0 at least", x -> {
            due(melts(0, 0, 100, -9, 0), 14);
            due(melts(0, 0, 100, 4, 0), 1);
            due(melts(0, 0, 100, 5, 0), 0);
            due(melts(0, 0, 100, 6, 0), 0);
            due(melts(0, 0, 100, 20, 0), 0);
        });
        point(1, "THIN: as LETTER (0 at least), and a tenth of ICE (cut)", x -> {
            due(melts(1, 0, 9, 5, 0), 0);
            due(melts(1, 0, 10, 5, 0), 1);
            due(melts(1, 0, 19, 4, 0), 2);
            due(melts(1, 0, 999, 20, 0), 99);
        });
        point(1, "BOLD: half of as LETTER (cut)", x -> {
            due(melts(2, 0, 100, 4, 0), 0);
            due(melts(2, 0, 100, 3, 0), 1);
            due(melts(2, 0, 100, 2, 0), 1);
            due(melts(2, 0, 100, -8, 0), 6);
            due(melts(2, 0, 100, 20, 0), 0);
        });
        point(1, "SALTED: as THIN, and m", x -> {
            due(melts(3, 0, 9, 5, 0), 0);
            due(melts(3, 9, 9, 5, 0), 9);
            due(melts(3, 9, 999, 20, 0), 108);
        });
        point(1, "CAPITAL: as BOLD, and 1 if AGE is odd", x -> {
            due(melts(4, 0, 100, 5, 0), 0);
            due(melts(4, 0, 100, 5, 1), 1);
            due(melts(4, 0, 100, 4, 98), 0);
            due(melts(4, 0, 100, 4, 99), 1);
            due(melts(4, 9, 100, -9, 99), 8);
        });
        point(1, "OLD: as LETTER, and AGE by 4 (cut)", x -> {
            due(melts(5, 0, 100, 5, 3), 0);
            due(melts(5, 0, 100, 5, 4), 1);
            due(melts(5, 0, 100, 20, 7), 1);
            due(melts(5, 0, 100, -9, 99), 38);
        });
        point(1, "TOLD: what DRIPS gives, held within 0 .. ICE", x -> {
            due(melts(6, 0, 100, 4, 0), 0);
            due(melts(6, 0, 100, 3, 0), 0);
            due(melts(6, 0, 100, 2, 0), 1);
            due(melts(6, 0, 12, -9, 0), 12);
            due(melts(6, 0, 11, -9, 0), 11);
        });
        point(1, "MELTS held within 0 .. ICE", x -> {
            for (int kind = 0; kind < 7; kind++) {
                due(melts(kind, 9, 0, -9, 99), 0);
                due(melts(kind, 9, 1, -9, 99), 1);
            }
            due(melts(0, 0, 13, -9, 0), 13);
            due(melts(0, 0, 14, -9, 0), 14);
            due(melts(0, 0, 15, -9, 0), 14);
        });
        point(1, "MELTS held at the end alone", x -> {
            due(melts(2, 0, 10, -9, 0), 7);
            due(melts(4, 0, 10, -9, 1), 8);
            due(melts(1, 0, 15, -9, 0), 15);
        });
    }

    private static void reading() {
        point(1, "READ of a LETTER: ICE by (10 and m) (cut)", x -> {
            for (int kind : new int[] {0, 1, 3, 6}) {
                due(reads(kind, 0, 9), 0);
                due(reads(kind, 0, 10), 1);
                due(reads(kind, 0, 19), 1);
                due(reads(kind, 9, 18), 0);
                due(reads(kind, 9, 19), 1);
                due(reads(kind, 9, 170), 8);
            }
        });
        point(1, "READ of a LETTER (0 .. 9)", x -> {
            for (int kind = 0; kind < 7; kind++) {
                due(reads(kind, 0, 0), 0);
                due(reads(kind, 0, 999), 9);
            }
            due(reads(0, 0, 89), 8);
            due(reads(0, 0, 90), 9);
            due(reads(0, 0, 100), 9);
        });
        point(1, "BOLD: as LETTER, and 1, if that is above 0", x -> {
            due(reads(2, 0, 9), 0);
            due(reads(2, 0, 10), 2);
            due(reads(2, 9, 18), 0);
            due(reads(2, 9, 19), 2);
            due(reads(2, 0, 79), 8);
            due(reads(2, 0, 90), 9);
        });
        point(1, "CAPITAL: as BOLD, but as if m were 0", x -> {
            due(reads(4, 9, 9), 0);
            due(reads(4, 9, 10), 2);
            due(reads(4, 9, 79), 8);
        });
        point(1, "OLD: as LETTER, less 1", x -> {
            due(reads(5, 0, 9), 0);
            due(reads(5, 0, 19), 0);
            due(reads(5, 0, 20), 1);
            due(reads(5, 9, 38), 1);
        });
        point(1, "READ held at the end alone", x -> {
            due(reads(5, 0, 99), 8);
            due(reads(5, 0, 100), 9);
        });
    }

    private static void salting() {
        point(1, "A CAST of a LETTER takes its ICE out of WATER", x -> {
            due(x.cast(0, 1, 999), 0);
            due(x.count(2), 1);
            due(x.cast(0, 1, 1), 1);
            due(x.count(2), 0);
        });
        point(1, "as much as SALT times ICE by WATER (as they are ahead; cut)", x -> {
            x.have(5, 1);
            due(x.cast(14, 1, 999), 0);
            due(x.count(3), 1);
            x.have(4, 999);
            due(x.cast(14, 1, 999), 1);
            due(x.count(3), 0);
        });
        point(1, "if that is above 0, a THIN one is SALTED instead", x -> {
            x.have(4, 10);
            x.have(5, 1);
            x.cast(14, 1, 9);
            due(x.letterIs(0, 0), 1);
            due(x.letterIs(0, 1), 4);
            x.cast(14, 1, 1);
            due(x.letterIs(1, 0), 3);
            due(x.letterIs(1, 1), 1);
        });
        point(1, "(9 at most)", x -> {
            x.have(4, 10);
            x.have(5, 9);
            x.cast(10, 1, 10);
            due(x.letterIs(0, 1), 9);
            x.have(4, 10);
            x.have(5, 10);
            x.cast(10, 1, 10);
            due(x.letterIs(1, 1), 9);
            due(x.count(3), 0);
            x.have(4, 999);
            x.have(5, 9999);
            x.cast(10, 1, 999);
            due(x.letterIs(2, 1), 9);
            due(x.count(3), 0);
        });
        point(1, "(0 without WATER)", x -> {
            x.have(4, 0);
            x.have(5, 9999);
            due(x.cast(14, 1, 0), 0);
            due(x.letterIs(0, 0), 1);
            due(x.letterIs(0, 1), 4);
            due(x.count(3), 9999);
        });
        point(1, "another than a THIN one stays of its KIND", x -> {
            for (int kind : new int[] {0, 2, 3, 4, 5, 6}) {
                x.have(4, 100);
                x.have(5, 100);
                int letter = x.cast(10 * kind + 8, 1, 50);
                due(x.letterIs(letter, 0), kind);
                due(x.letterIs(letter, 1), 8);
                due(x.count(3), 50);
            }
        });
    }

    private static void textForms() {
        point(2, "THE TAPE (bytes, at most 60)", x -> {
            due(feed(x, "10" + times(29, "+1")), 60);
            due(x.feed('1', 1), FULL);
            due(x.text(0), 1);
        });
        point(2, "(60 of which each has a meaning of its own)", x -> {
            due(gives("!0" + times(29, "+1")), 30);
            due(gives("!!!!!0" + times(27, "+1")), 28);
        });
        point(2, "(each byte by itself: it may stand ahead, or behind a NUMBER, or a TEXT ends there)", x -> {
            for (char sign = 0; sign < 256; sign++) {
                boolean ahead = "0123456789icam".indexOf(sign) >= 0;
                boolean opens = "!(".indexOf(sign) >= 0;
                boolean joins = "|&<=>+-*/%0123456789".indexOf(sign) >= 0;
                due(text(new IceType(), 0, "" + sign), ahead ? 1 : opens ? -11 : -10);
                due(faultOf(0, "1" + sign + "1"), joins ? -11 : 1);
            }
        });
        point(2, "a NUMBER of 1 to 4 digits", x -> {
            due(gives("0"), 0);
            due(gives("0007"), 7);
            due(gives("9999-9000"), 999);
            due(faultOf(0, "00007"), 4);
            due(faultOf(0, "1+12345"), 6);
        });
        point(2, "a NAME of its USE alone", x -> {
            for (String name : "i c a m".split(" ")) {
                due(text(x, 0, name), 1);
                due(text(x, 1, name), -10);
            }
            for (String name : "r s g".split(" ")) {
                due(text(x, 0, name), -10);
                due(text(x, 1, name), 1);
            }
            due(faultOf(0, "ii"), 1);
        });
        point(2, "NAMES i ICE, c COLD, a AGE, m m", x -> {
            due(gives("i"), 999);
            due(gives("9+c"), 2);
            due(gives("a"), 11);
            due(gives("m"), 3);
        });
        point(2, "B: S, or S < S, S = S, S > S (one of them alone)", x -> {
            due(gives("1<2"), 1);
            due(faultOf(0, "1<2<3"), 3);
            due(faultOf(0, "1=1>0"), 3);
            due(gives("(1<2)<3"), 1);
            due(gives("1<2|2<1"), 1);
        });
        point(2, "No blanks", x -> {
            due(faultOf(0, " 1"), 0);
            due(faultOf(0, "1 "), 1);
            due(faultOf(0, "1+ 1"), 2);
            due(faultOf(0, "1\n"), 1);
        });
        point(2, "At most 5 of ! and ( are open at once", x -> {
            due(gives("!!!!!0"), 1);
            due(gives("(((((7)))))"), 7);
            due(gives("(!(!(7)))"), 1);
            due(faultOf(0, "!!!!!!0"), 5);
            due(faultOf(0, "((((((7))))))"), 5);
            due(faultOf(0, "!!!!!(0)"), 5);
            due(faultOf(0, "(((((!0)))))"), 5);
            due(faultOf(0, "1+(1+(1+(1+(1+(1+(1"), 17);
        });
        point(2, "(those that are closed are not open any more)", x -> {
            due(gives(times(6, "+(1)").substring(1)), 6);
            due(gives(times(6, "+!0").substring(1)), 6);
            due(gives("(((((1)+(1)))))+!!!!!0"), 3);
            due(gives("!!!!!0+(((((1)))))"), 2);
        });
    }

    private static void textValues() {
        point(2, "Ints that wrap", x -> {
            due(gives("8192*8192*32<0"), 1);
            due(gives("8192*8192*32-1>0"), 1);
            due(gives("8192*8192*32-1+1<0"), 1);
            due(gives("0-8192*8192*32<0"), 1);
            due(gives("(9999*9999*9999%1000+1000)%1000"), (9999 * 9999 * 9999 % 1000 + 1000) % 1000);
            due(gives("8192*8192*32<8192*8192*32-1"), 1);
            due(gives("8192*8192*32>8192*8192*32-1"), 0);
        });
        point(2, "/ cut", x -> {
            due(gives("9+c/2"), 6);
            due(gives("9+7/(0-2)"), 6);
            due(gives("9+c/8"), 9);
            due(gives("8192*8192*32/(0-1)<0"), 1);
        });
        point(2, "% the rest that it leaves", x -> {
            due(gives("9+c%4"), 6);
            due(gives("7%(0-4)"), 3);
            due(gives("7%7"), 0);
            due(gives("9+8192*8192*32%(0-1)"), 9);
        });
        point(2, "both by 0 are 0", x -> {
            due(gives("5+7/0"), 5);
            due(gives("5+7%0"), 5);
            due(gives("5+0/0+0%0"), 5);
            due(gives("5+7/(a-11)"), 5);
        });
        point(2, "| & < = > ! are 1 or 0, what is not 0 being true", x -> {
            String[] truths = {"5|0", "0|c", "2&c", "!0", "a<12", "c<0", "a>10", "0>c", "a=11", "c=0-7"};
            for (String truth : truths) {
                due(gives("5+(" + truth + ")"), 6);
                due(gives("5-(" + truth + ")"), 4);
            }
            String[] untruths = {"0|0", "2&0", "0&c", "!5", "!c", "a<11", "0<c", "a>11", "c>0", "a=10", "c=7"};
            for (String untruth : untruths) {
                due(gives("5+(" + untruth + ")"), 5);
                due(gives("5-(" + untruth + ")"), 5);
            }
        });
        point(2, "FAULT: the place of the first byte with which no TEXT goes on", x -> {
            due(faultOf(0, "x"), 0);
            due(faultOf(0, ")"), 0);
            due(faultOf(0, "-1"), 0);
            due(faultOf(0, "1!"), 1);
            due(faultOf(0, "1)"), 1);
            due(faultOf(0, "1+-1"), 2);
            due(faultOf(0, "()"), 1);
            due(faultOf(0, "(1+)"), 3);
            due(faultOf(0, "(1))"), 3);
            due(faultOf(0, "1&|x"), 2);
            due(faultOf(0, "1\0"), 1);
            due(faultOf(0, "\0"), 0);
            due(faultOf(0, "i\u00ff"), 1);
            due(faultOf(0, "\u00e9"), 0);
            due(faultOf(0, times(29, "1+") + "1x"), 59);
        });
        point(2, "how many there are, if it ends too early", x -> {
            due(faultOf(0, ""), 0);
            due(faultOf(0, "!"), 1);
            due(faultOf(0, "("), 1);
            due(faultOf(0, "(1"), 2);
            due(faultOf(0, "1<"), 2);
            due(faultOf(0, "i+3|"), 4);
            due(faultOf(0, times(30, "1+")), 60);
            due(faultOf(0, "(" + times(29, "1+") + "1"), 60);
        });
    }

    private static void uses() {
        point(2, "DRIPS without a TEXT 3 - c", x -> {
            x.cast(60, 1, 20);
            due(x.letterIs(0, 7), 0);
            x.have(0, -9);
            due(x.letterIs(0, 7), 12);
        });
        point(2, "SEES without (a TEXT) r", x -> {
            x.cast(0, 1, 29);
            due(x.letterIs(0, 9), 2);
        });
        point(2, "s SHEETS of its PAGE so far (0 in none)", x -> {
            x.cast(0, 1, 9);
            text(x, 1, "1+s");
            due(x.letterIs(0, 9), 1);
            x.lay(1, 0);
            due(x.letterIs(0, 9), 1);
            x.press(1, 5);
            x.press(2, 7);
            due(x.letterIs(0, 9), 6);
            x.sort(1);
            due(x.letterIs(0, 9), 1);
            x.lay(2, 0);
            due(x.letterIs(0, 9), 8);
        });
        point(2, "SEES held within 0 .. 9", x -> {
            due(seesBy("0-1"), 0);
            due(seesBy("0"), 0);
            due(seesBy("9"), 9);
            due(seesBy("10"), 9);
            due(seesBy("r-g"), 0);
            due(seesBy("r+g"), 9);
            due(seesBy("8192*8192*32"), 0);
            due(seesBy("8192*8192*32-1"), 9);
        });
    }

    private static void pagesAndSheets() {
        point(3, "PAGES 0 .. 3", x -> {
            beyond(0, 3, v -> x.pageIs(v, 0));
            due(x.pageIs(0, 0), 0);
            due(x.pageIs(3, 0), 0);
        });
        point(3, "rows of at most 8 LETTERS", x -> {
            castSome(x, 9, 10);
            for (int i = 0; i < 8; i++) {
                x.lay(0, i);
            }
            due(x.lay(0, 8), FULL);
            due(x.pageIs(0, 0), 8);
        });
        point(3, "SEEN of a PAGE: the least of what SEES gives (9 without any)", x -> {
            due(x.pageIs(0, 2), 9);
            castSome(x, 7, 80);
            x.cast(0, 1, 20);
            for (int i = 0; i < 8; i++) {
                x.lay(0, i);
            }
            due(x.pageIs(0, 2), 2);
            x.drink(0);
            due(x.pageIs(0, 2), 0);
            x.sort(0);
            due(x.pageIs(0, 2), 9);
        });
        point(3, "SHEETS of a PAGE: how many were pressed (0 at first)", x -> {
            due(x.pageIs(3, 1), 0);
            x.press(3, 99);
            due(x.pageIs(3, 1), 99);
            due(x.pageIs(2, 1), 0);
        });
        point(3, "it is CLEAR, if SEEN is 3 or more", x -> {
            x.cast(0, 1, 30);
            x.cast(0, 1, 29);
            x.lay(0, 0);
            x.lay(1, 1);
            due(x.press(0, 1), 1);
            due(x.press(1, 1), 0);
            due(x.press(2, 1), 1);
        });
        point(3, "CLEAR is asked ahead of melting", x -> {
            x.cast(0, 1, 30);
            x.have(0, -9);
            x.lay(0, 0);
            due(x.press(0, 2), 1);
            due(x.letterIs(0, 3), 2);
        });
        point(3, "ICE less MELTS (held within ICE)", x -> {
            x.cast(0, 1, 15);
            x.cast(0, 1, 0);
            x.have(0, -9);
            x.lay(0, 0);
            x.lay(0, 1);
            x.press(0, 1);
            due(x.letterIs(0, 3), 1);
            x.press(0, 1);
            due(x.letterIs(0, 3), 0);
            x.press(0, 1);
            due(x.letterIs(0, 3), 0);
            due(x.letterIs(1, 3), 0);
            due(x.count(2), 1000);
        });
        point(3, "which drip into WATER (what is above 99999 is MIST)", x -> {
            castSome(x, 2, 100);
            x.have(0, 0);
            x.lay(0, 0);
            x.lay(0, 1);
            x.have(4, 99989);
            x.press(0, 1);
            due(x.count(2), 99999);
            due(x.count(4), 0);
            x.have(4, 99993);
            x.press(0, 1);
            due(x.count(2), 99999);
            due(x.count(4), 4);
            x.press(0, 1);
            due(x.count(4), 14);
        });
        point(3, "AGE 1 more (99 at most; by MELTS ahead of that)", x -> {
            x.cast(50, 1, 100);
            x.lay(0, 0);
            x.set(0, 6, 3);
            x.press(0, 1);
            due(x.letterIs(0, 3), 100);
            due(x.letterIs(0, 6), 4);
            x.press(0, 1);
            due(x.letterIs(0, 3), 99);
            x.set(0, 6, 98);
            x.press(0, 1);
            due(x.letterIs(0, 6), 99);
            x.press(0, 1);
            due(x.letterIs(0, 6), 99);
        });
    }

    private static void runsAndLosses() {
        point(3, "RUN: how many SHEETS are CLEAR, up to the first that isn't", x -> {
            x.cast(0, 1, 99);
            x.lay(0, 0);
            text(x, 1, "9*!(s=2)");
            due(x.run(0, 5), 2);
            due(x.press(0, 5), 4);
            due(x.run(0, 5), 5);
        });
        point(3, "LOST: behind how many SHEETS what SEES gives is below 3 first", x -> {
            x.cast(0, 1, 99);
            x.cast(0, 2, 99);
            x.lay(0, 0);
            x.lay(0, 1);
            text(x, 1, "9*!(s=2&g=1|s=1&g=2)");
            due(x.lost(0), 2);
            due(x.lost(1), 1);
            text(x, 1, "3-(s=4)");
            due(x.lost(0), 4);
        });
    }

    private static void inARow() {
        point(3, "PAGES that have LETTERS are pressed", x -> {
            castSome(x, 2, 99);
            x.lay(1, 0);
            x.lay(3, 1);
            due(x.order(20, -1), 40);
            due(x.order(20, 0), 1);
            due(x.order(20, 1), 3);
            due(x.order(20, 2), NONE);
        });
        point(3, "behind each SHEET of it LETTERS in other PAGES melt, too", x -> {
            castSome(x, 2, 48);
            x.have(0, 4);
            x.lay(0, 0);
            x.lay(1, 1);
            due(x.order(10, -1), 19);
            due(x.order(20, -1), 19);
            due(x.order(9, -1), 18);
        });
        point(3, "(of PAGES of 8 LETTERS, too)", x -> {
            castSome(x, 24, 39);
            x.have(0, 4);
            for (int i = 0; i < 24; i++) {
                x.lay(1 + i / 8, i);
            }
            due(x.order(5, -1), 10);
            due(x.order(10, -1), 10);
            x.set(23, 4, 1);
            due(x.order(5, -1), 10);
            x.set(22, 0, 1);
            due(x.order(5, 0), 1);
            due(x.order(5, 1), 2);
            due(x.order(5, 2), 3);
        });
        point(3, "(where none is CLEAR, the first row of all)", x -> {
            castSome(x, 2, 29);
            x.lay(1, 0);
            x.lay(2, 1);
            due(x.order(5, -1), 0);
            due(x.order(5, 0), 1);
            due(x.order(5, 1), 2);
            due(x.order(5, 2), NONE);
        });
        point(3, "(AGE stays)", x -> {
            x.cast(50, 1, 60);
            x.cast(50, 1, 60);
            x.lay(0, 0);
            x.lay(1, 1);
            due(x.order(20, -1), 30);
        });
        point(3, "SHEETS of a PAGE that waits stay", x -> {
            castSome(x, 2, 99);
            x.lay(0, 0);
            x.lay(1, 1);
            text(x, 1, "r*(s<2)");
            due(x.order(10, -1), 4);
        });
        point(3, "most SHEETS are CLEAR in all (behind one that isn't, too)", x -> {
            x.cast(0, 1, 99);
            x.lay(2, 0);
            text(x, 1, "9*!(s=2)");
            due(x.order(5, -1), 4);
        });
        point(3, "the row by which most SHEETS are CLEAR", x -> {
            x.have(0, 4);
            for (int page = 0; page < 4; page++) {
                x.cast(0, 1, 49 - 5 * page);
                x.lay(page, page);
            }
            due(x.order(5, -1), 20);
            for (int i = 0; i < 4; i++) {
                due(x.order(5, i), 3 - i);
            }
        });
        point(3, "of several the first as a row", x -> {
            castSome(x, 4, 99);
            for (int page = 0; page < 4; page++) {
                x.lay(3 - page, page);
            }
            for (int i = 0; i < 4; i++) {
                due(x.order(5, i), i);
            }
            x.have(1, 1);
            x.set(2, 4, 1);
            due(x.order(20, -1), 78);
            due(x.order(20, 0), 1);
            due(x.order(20, 1), 0);
            due(x.order(20, 2), 2);
            due(x.order(20, 3), 3);
        });
    }

    private static void roomsAndNeeds() {
        point(3, "ROOM FOR a PAGE: all its LETTERS lying there", x -> {
            castSome(x, 2, 60);
            x.set(0, 4, 2);
            x.set(1, 4, 3);
            x.lay(0, 0);
            x.lay(0, 1);
            x.have(0, -9);
            x.have(1, 4);
            x.have(2, 0);
            x.have(3, 0);
            due(x.room(0, 99), 1);
        });
        point(3, "(ROOMS 0 .. 3 alone, however warm)", x -> {
            x.cast(0, 1, 999);
            x.lay(0, 0);
            for (int room = 0; room < 4; room++) {
                x.have(room, -9);
            }
            due(x.room(0, 99), 0);
            x.have(3, -8);
            due(x.room(0, 99), 3);
        });
        point(3, "(of a PAGE of 8 LETTERS, too)", x -> {
            castSome(x, 8, 60);
            for (int i = 0; i < 8; i++) {
                x.set(i, 4, 3);
                x.lay(0, i);
            }
            x.have(1, 6);
            for (int room = 0; room < 4; room += 2) {
                x.have(room, 4);
            }
            x.have(3, 20);
            due(x.room(0, 99), 1);
            x.have(1, 4);
            due(x.room(0, 99), 3);
        });
        point(3, "ROOM: of several the least", x -> {
            x.cast(0, 1, 60);
            x.lay(0, 0);
            x.have(0, 0);
            x.have(2, 20);
            x.have(1, 4);
            due(x.room(0, 99), 2);
            x.have(1, 20);
            due(x.room(0, 99), 1);
            due(x.room(0, 7), 0);
            x.drink(0);
            due(x.room(0, 99), 0);
        });
        point(3, "NEEDS: the least ICE (0 .. 999)", x -> {
            x.cast(60, 1, 500);
            x.lay(0, 0);
            due(x.needs(0, 1), 30);
            text(x, 1, "3");
            due(x.needs(0, 1), 0);
            x.untell(1);
            text(x, 0, "i*(i<999)");
            due(x.needs(0, 2), 999);
            text(x, 0, "i");
            due(x.needs(0, 2), NONE);
        });
        point(3, "NEEDS: ahead of each of n SHEETS", x -> {
            x.cast(0, 1, 0);
            x.have(0, 4);
            x.lay(0, 0);
            due(x.needs(0, 1), 30);
            due(x.needs(0, 2), 31);
            due(x.needs(0, 30), 59);
            x.press(0, 99);
            text(x, 1, "r*(s<101)");
            due(x.needs(0, 2), 31);
            due(x.needs(0, 3), NONE);
        });
    }

    private static void wordsAndCases() {
        point(3, "WORDS (at most 8)", x -> {
            for (int i = 0; i < 8; i++) {
                due(word(x, "a"), i);
            }
            due(word(x, "a"), FULL);
        });
        point(3, "each 1 .. 8 bytes a .. z", x -> {
            due(word(x, ""), -10);
            due(word(x, "a"), 0);
            due(word(x, "zzzzzzzz"), 1);
            due(word(x, "aaaaaaaaa"), -18);
            due(word(x, "`"), -10);
            due(word(x, "{"), -10);
        });
        point(3, "a PAGE may have said a WORD, if it has as many LETTERS", x -> {
            castSome(x, 8, 0);
            word(x, "zzz");
            word(x, "zzzzzzzz");
            due(x.said(0), 0);
            for (int i = 0; i < 8; i++) {
                x.lay(0, i);
                due(x.said(0), i == 2 ? 1 : i == 7 ? 2 : 0);
            }
        });
        point(3, "each LETTER of which SEES gives above 0 is that of the WORD", x -> {
            x.cast(0, 1, 10);
            x.cast(0, 26, 10);
            x.lay(0, 0);
            x.lay(0, 1);
            word(x, "az");
            word(x, "bz");
            word(x, "ay");
            word(x, "zz");
            due(x.said(0), 1);
            text(x, 1, "r*(g=26)");
            due(x.said(0), 1 + 2 + 8);
            text(x, 1, "r*(g=1)");
            due(x.said(0), 1 + 4);
        });
        point(3, "CASE: LETTERS of it in no PAGE with READ above 0", x -> {
            x.cast(0, 1, 9);
            due(x.inCase(1), 0);
            x.cast(0, 1, 10);
            due(x.inCase(1), 1);
            x.lay(0, 1);
            due(x.inCase(1), 0);
            due(x.inCase(2), 0);
        });
        point(3, "A DECREE: the first byte that is no a .. z", x -> {
            x.cast(0, 1, 10);
            x.cast(0, 26, 10);
            due(decree(x, "az`"), 2);
            due(decree(x, "za{"), 2);
            due(decree(x, "aAz"), 1);
            due(decree(x, "\u00e1"), 0);
            due(decree(x, "\0"), 0);
        });
        point(3, "for which the CASE of its GLYPH has none left (each LETTER is used once)", x -> {
            x.cast(0, 1, 10);
            x.cast(0, 2, 10);
            x.cast(0, 1, 10);
            due(decree(x, "abab"), 3);
            due(decree(x, "aaa"), 2);
            due(decree(x, "abc"), 2);
        });
        point(3, "as many as there are: all of it can be set", x -> {
            castSome(x, 24, 10);
            due(decree(x, ""), 0);
            due(decree(x, "a"), 1);
            due(decree(x, times(24, "a")), 24);
            due(decree(x, times(60, "a")), 24);
        });
    }

    private static void warmDays() {
        point(3, "COLD of each ROOM is so much less (-9 .. 20): warmer", x -> {
            x.have(0, -9);
            x.have(1, -7);
            x.have(2, -6);
            x.have(3, 20);
            x.seed(seedFor(6));
            x.days(1);
            due(x.count(10), -9);
            due(x.count(11), -9);
            due(x.count(12), -9);
            due(x.count(13), 17);
        });
        point(3, "COLD of each ROOM is so much less (-9 .. 20): colder", x -> {
            x.have(0, 20);
            x.have(1, 18);
            x.have(2, 17);
            x.have(3, -9);
            x.seed(seedFor(0));
            x.days(1);
            due(x.count(10), 20);
            due(x.count(11), 20);
            due(x.count(12), 20);
            due(x.count(13), -6);
        });
        point(3, "its rest by 7, less 3", x -> {
            for (int rest = 0; rest < 7; rest++) {
                x.have(0, 5);
                x.seed(seedFor(rest));
                x.days(1);
                due(x.count(10), 5 - (rest - 3));
            }
        });
        point(3, "then LETTERS in no PAGE lose half of MELTS (cut) as MIST", x -> {
            castSome(x, 2, 100);
            x.lay(0, 1);
            x.have(0, 7);
            x.seed(seedFor(6));
            due(x.days(1), 0);
            due(x.count(10), 4);
            x.seed(seedFor(4));
            due(x.days(1), 1);
            due(x.letterIs(0, 3), 99);
            due(x.letterIs(1, 3), 100);
            due(x.letterIs(0, 6), 0);
            due(x.count(4), 1);
            due(x.count(2), 800);
        });
        point(3, "(of as many LETTERS as there may be)", x -> {
            castSome(x, 24, 10);
            x.have(0, -9);
            x.seed(seedFor(3));
            due(x.days(1), 24 * 5);
            due(x.letterIs(0, 3), 5);
            due(x.letterIs(23, 3), 5);
        });
        point(3, "half of MELTS (held within ICE)", x -> {
            x.cast(0, 1, 3);
            x.cast(0, 1, 1);
            x.cast(0, 1, 0);
            x.have(0, -9);
            x.seed(seedFor(6));
            due(x.days(1), 1);
            due(x.letterIs(0, 3), 2);
            due(x.letterIs(1, 3), 1);
            due(x.letterIs(2, 3), 0);
        });
        point(3, "z * 1103515245 + 12345 (an int), and gives z >>> 8", x -> {
            due(x.count(9), 1);
            x.seed(MAX);
            for (int i = 0; i < 30; i++) {
                long z = (x.count(9) * 1103515245L + 12345L) & 0xffffffffL;
                x.have(0, 5);
                x.days(1);
                due(x.count(9), (int) z);
                due(x.count(10), 5 - ((int) ((z >> 8) % 7) - 3));
            }
        });
    }

    private static void voices() {
        point(4, "with a number x (ints that wrap): melts", x -> {
            castSome(x, 3, 0);
            due(x.voice(2, 0, MAX), MIN + 1);
            x.set(2, 0, 1);
            due(x.voice(2, 0, MIN), MAX - 3);
            x.set(2, 0, 3);
            due(x.voice(2, 0, MAX), (MAX - 4) * 3);
        });
        point(4, "ints that wrap: reads", x -> {
            castSome(x, 1, 0);
            due(x.voice(0, 1, MAX), -2);
            due(x.voice(0, 1, MIN), 0);
            x.set(0, 0, 2);
            due(x.voice(0, 1, 1 << 30), MIN);
            x.set(0, 0, 4);
            due(x.voice(0, 1, MAX), 0);
            due(x.voice(0, 1, -1), 0);
            due(x.voice(0, 1, MAX - 1), 2);
        });
        point(4, "ints that wrap: drips", x -> {
            x.cast(9, 1, 0);
            due(x.voice(0, 2, 1 << 30), MAX - 8);
            x.set(0, 0, 5);
            due(x.voice(0, 2, MIN), MIN - 9);
            due(x.voice(0, 2, MAX), MAX - 1 - 9);
            due(x.voice(0, 2, -1), -9);
        });
        point(4, "ints that wrap: casts", x -> {
            castSome(x, 2, 0);
            due(x.voice(1, 3, MIN), MIN);
            due(x.voice(1, 3, MAX), -MAX);
            x.set(1, 0, 1);
            due(x.voice(1, 3, MIN), MIN - 8);
        });
        point(4, "x by (m - k) (PARTED if that is 0)", x -> {
            x.cast(0, 1, 0);
            x.cast(1, 1, 0);
            x.cast(1, 1, 0);
            due(x.voice(0, 3, 0), PARTED);
            due(x.voice(1, 3, MIN), PARTED);
            due(x.voice(2, 3, 5), -5);
            due(x.voice(2, 3, 0), 0);
            x.set(2, 1, 9);
            due(x.voice(2, 3, 6), 0);
            due(x.voice(2, 3, 7), 1);
        });
        point(4, "that is all that voice() answers then", x -> {
            x.cast(10, 1, 0);
            due(x.voice(0, 3, 7), PARTED);
            x.set(0, 0, 3);
            due(x.voice(0, 3, 7), PARTED);
            due(x.count(8), 2);
            due(x.body(0), 21);
            due(x.body(1), 13);
        });
        point(4, "the BODY of its KIND, or of the next KIND above that has one", x -> {
            castSome(x, 4, 0);
            x.set(3, 1, 5);
            int[] answers = {10, 20, 15, 3, 4, 8, 3, -1, 10, -20, -25, 3, 12, 24, 16, -9, 10, -22, -27, 3, 10, 20, 7, 3,
                2, 9, 4, 3};
            String[] traces = {"10", "11 10", "12 11 10", "13", "20 10", "11 20 10", "12 11 20 10", "21 13 11 20 10",
                "10", "30 11 10", "12 30 11 10", "13", "40 20 10", "11 40 20 10", "41 12 11 40 20 10",
                "21 13 11 40 20 10", "10", "50 30 11 10", "12 50 30 11 10", "13", "10", "11 10", "60 12 11 10", "13",
                "70", "71 11 70", "12 71 11 70", "13"};
            for (int i = 0; i < 28; i++) {
                x.set(3, 0, i / 4);
                due(x.voice(3, i % 4, 7), answers[i]);
                String[] bodies = traces[i].split(" ");
                due(x.count(8), bodies.length);
                for (int j = 0; j < bodies.length; j++) {
                    due(x.body(j), Integer.parseInt(bodies[j]));
                }
            }
        });
        point(4, "THE TRACE: the numbers of BODIES of the latest voice()", x -> {
            due(x.count(8), 0);
            x.cast(35, 1, 0);
            x.voice(0, 3, 1);
            int[] longest = {21, 13, 11, 40, 20, 10};
            due(x.count(8), longest.length);
            for (int i = 0; i < longest.length; i++) {
                due(x.body(i), longest[i]);
            }
            x.set(0, 0, 6);
            x.voice(0, 0, 1);
            due(x.count(8), 1);
            due(x.body(0), 70);
            due(x.body(1), NONE);
        });
    }

    private static void plates() {
        point(5, "SHEETS OF NUMBERS 0 .. 3", x -> {
            due(x.sheet(0, 8, 1), 1);
            due(x.sheet(3, 8, 1), 1);
            beyond(0, 3, v -> x.sheet(v, 8, 1));
        });
        point(5, "of 8 bits (with a sign)", x -> {
            plate(x, 0, 8, 0, 1, 127);
            due(x.casts(0), 1);
            due(x.letterIs(0, 3), 127);
            x.put(0, 2, 128);
            due(x.casts(0), 0);
            x.put(0, 2, 255);
            due(x.casts(0), 0);
            x.put(0, 2, 256 + 5);
            due(x.casts(0), 1);
            due(x.letterIs(1, 3), 5);
        });
        point(5, "of 16 bits", x -> {
            plate(x, 0, 16, 0, 1, 300);
            due(x.casts(0), 1);
            due(x.letterIs(0, 3), 300);
            x.put(0, 2, 65536 + 301);
            due(x.casts(0), 1);
            due(x.letterIs(1, 3), 301);
            x.put(0, 2, 65535);
            due(x.casts(0), 0);
        });
        point(5, "of 32 bits", x -> {
            plate(x, 0, 32, 0, 1, 65536 + 301);
            due(x.casts(0), 0);
            x.put(0, 2, MIN + 301);
            due(x.casts(0), 0);
            x.put(0, 2, 301);
            due(x.casts(0), 1);
        });
        point(5, "at most 24 numbers", x -> {
            due(x.sheet(0, 32, 24), 1);
            due(x.put(0, 23, 1), 1);
            due(x.sheet(0, 32, 25), BEYOND);
        });
        point(5, "or missing (as at first)", x -> {
            for (int sheet = 0; sheet < 4; sheet++) {
                due(x.put(sheet, 0, 1), NONE);
            }
        });
    }

    public static void main(String[] args) {
        errors();
        roomsAndTray();
        letters();
        melting();
        reading();
        salting();
        textForms();
        textValues();
        uses();
        pagesAndSheets();
        runsAndLosses();
        inARow();
        roomsAndNeeds();
        wordsAndCases();
        warmDays();
        voices();
        plates();
        end(0, 5);
    }
}
