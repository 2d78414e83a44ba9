/** Each promise of the document by hand-made calls: ordinary inputs, edges, wrong inputs. */
public final class PromiseTests extends Sentences {
    private static int wrong = 0;
    private static int asked = 0;

    private static void due(String what, int got, int want) {
        asked++;
        if (got != want) {
            wrong++;
            System.out.println(what + " answered " + got + ", due is " + want);
        }
    }

    /** The value of a TEXT of DRIPS, shown by two looks as MELTS of a letter with much ice. */
    private static void worksOut(String text, int want) {
        IceType x = new IceType();
        x.cast(63, 1, 999);
        x.have(0, -7);
        x.set(0, 6, 11);
        due("text " + text, text(x, 0, text), 1);
        due("value of " + text, x.letterIs(0, 7), Math.max(0, Math.min(999, want)));
        due("text 0-(" + text + ")", text(x, 0, "0-(" + text + ")"), 1);
        due("value of 0-(" + text + ")", x.letterIs(0, 7), Math.max(0, Math.min(999, -want)));
    }

    private static void fault(int use, String text, int place) {
        IceType x = new IceType();
        due("text of " + use + ": " + text, text(x, use, text), -10 - place);
        due("the tape behind a fault", x.count(6), 0);
        due("a fault is no ERROR", x.told(1) + x.told(2) + x.told(3) + x.told(4) + x.told(5) + x.told(6), 0);
        due("no text came", x.untell(use), 0);
    }

    private static void newObject() {
        IceType x = new IceType();
        int[] first = {0, 0, 1000, 0, 0, 0, 0, 0, 0, 1, 5, 5, 5, 5};
        for (int i = 0; i < first.length; i++) {
            due("1: count " + i, x.count(i), first[i]);
        }
        for (int page = 0; page < 4; page++) {
            due("1: letters of a page", x.pageIs(page, 0), 0);
            due("1: sheets", x.pageIs(page, 1), 0);
            due("1: seen", x.pageIs(page, 2), 9);
            due("1: no letter", x.pageIs(page, 3), -1);
            due("1: plate", x.casts(page), NONE);
        }
        due("1: no image", x.restore(), NONE);
        due("1: no texts", x.untell(0) + x.untell(1), 0);
        due("1: no trace", x.body(0), NONE);
        due("1: no letter", x.letterIs(0, 0), BEYOND);
    }

    private static void casting() {
        IceType x = new IceType();
        due("2: first", x.cast(69, 26, 0), 0);
        due("2: its kind", x.letterIs(0, 0), 6);
        due("2: its m", x.letterIs(0, 1), 9);
        due("2: its glyph", x.letterIs(0, 2), 26);
        due("2: second", x.cast(0, 1, 999), 1);
        due("2: water", x.count(2), 1);
        due("2: km", x.cast(-1, 1, 0), BEYOND);
        due("2: km", x.cast(70, 1, 0), BEYOND);
        due("2: glyph", x.cast(0, 0, 0), BEYOND);
        due("2: glyph", x.cast(0, 27, 0), BEYOND);
        due("2: ice", x.cast(0, 1, -1), BEYOND);
        due("2: ice", x.cast(0, 1, 1000), BEYOND);
        due("2: extremes", x.cast(MIN, MIN, MAX), BEYOND);
        due("2: too little water", x.cast(0, 1, 2), STATE);
        due("2: all water", x.cast(0, 1, 1), 2);
        due("2: no water, no ice", x.cast(10, 1, 0), 3);
        for (int i = 4; i < 24; i++) {
            due("2: number", x.cast(0, 1, 0), i);
        }
        due("2: STATE ahead of FULL", x.cast(0, 1, 1), STATE);
        due("2: FULL", x.cast(0, 1, 0), FULL);
        due("2: BEYOND ahead of FULL", x.cast(0, 27, 0), BEYOND);
        due("2: still 24", x.count(0), 24);
    }

    private static void castingInSalt() {
        IceType x = new IceType();
        x.have(5, 9999);
        due("2: thin", x.cast(12, 1, 100), 0);
        due("2: is salted", x.letterIs(0, 0), 3);
        due("2: 9 grains at most", x.letterIs(0, 1), 9);
        due("2: but all are taken", x.count(3), 9000);
        due("2: plain", x.cast(2, 1, 1), 1);
        due("2: stays", x.letterIs(1, 0), 0);
        due("2: its m stays", x.letterIs(1, 1), 2);
        due("2: salt is taken by all", x.count(3), 8990);
        due("2: salted", x.cast(31, 1, 1), 2);
        due("2: its m stays", x.letterIs(2, 1), 1);
        x.have(4, 7);
        x.have(5, 8);
        due("2: thin", x.cast(15, 1, 3), 3);
        due("2: 24 by 7", x.letterIs(3, 1), 3);
        due("2: salt left", x.count(3), 5);
        x.have(5, 1);
        x.have(4, 100);
        due("2: thin", x.cast(15, 1, 99), 4);
        due("2: stays thin", x.letterIs(4, 0), 1);
        due("2: m stays", x.letterIs(4, 1), 5);
        x.have(4, 0);
        x.have(5, 9999);
        due("2: thin without water", x.cast(15, 1, 0), 5);
        due("2: stays thin", x.letterIs(5, 0), 1);
        due("2: salt stays", x.count(3), 9999);
    }

    private static void facts() {
        IceType x = new IceType();
        x.have(4, 99999);
        x.cast(57, 3, 340);
        x.set(0, 4, 2);
        x.set(0, 6, 50);
        x.lay(1, 0);
        x.have(2, 0);
        int[] facts = {5, 7, 3, 340, 2, 1, 50, 17, 9, 9};
        for (int i = 0; i < facts.length; i++) {
            due("3: what " + i, x.letterIs(0, i), facts[i]);
        }
        due("3: what", x.letterIs(0, -1), BEYOND);
        due("3: what", x.letterIs(0, 10), BEYOND);
        due("3: letter", x.letterIs(1, 0), BEYOND);
        due("3: letter", x.letterIs(-1, 0), BEYOND);
        due("3: extremes", x.letterIs(MIN, MAX), BEYOND);
    }

    private static void meltsAndReads() {
        IceType x = new IceType();
        x.have(4, 99999);
        for (int kind = 0; kind < 7; kind++) {
            x.cast(10 * kind + 4, 1, 55);
            x.set(kind, 6, 9);
        }
        int[] warm = {14, 19, 7, 23, 8, 16, 12};
        int[] mild = {0, 5, 0, 9, 1, 2, 0};
        int[] reads = {3, 3, 4, 3, 6, 2, 3};
        for (int kind = 0; kind < 7; kind++) {
            x.have(0, -9);
            due("1: melts, warm, kind " + kind, x.letterIs(kind, 7), warm[kind]);
            x.have(0, 5);
            due("1: melts, mild, kind " + kind, x.letterIs(kind, 7), mild[kind]);
            x.have(0, 20);
            due("1: 0 at least, kind " + kind, x.letterIs(kind, 7), mild[kind]);
            due("1: reads, kind " + kind, x.letterIs(kind, 8), reads[kind]);
        }
        x.cast(99 % 70, 1, 999);
        int at = 7;
        for (int kind = 0; kind < 7; kind++) {
            x.set(at, 0, kind);
            x.set(at, 1, 0);
            due("1: 9 at most, kind " + kind, x.letterIs(at, 8), 9);
        }
        x.drink(at);
        x.have(0, -9);
        x.set(at, 6, 99);
        for (int kind = 0; kind < 7; kind++) {
            x.set(at, 0, kind);
            due("1: no more than ice, kind " + kind, x.letterIs(at, 7), 0);
            due("1: reads nothing, kind " + kind, x.letterIs(at, 8), 0);
        }
        x.cast(29, 1, 18);
        due("1: no bold of 0", x.letterIs(8, 8), 0);
        x.set(8, 0, 4);
        due("1: a capital is as without m", x.letterIs(8, 8), 2);
        x.cast(0, 1, 3);
        due("1: held by ice", x.letterIs(9, 7), 3);
    }

    private static void asKinds() {
        IceType x = new IceType();
        boolean[][] under = new boolean[7][7];
        int[] above = {-1, 0, 0, 1, 2, 0, 0};
        for (int kind = 0; kind < 7; kind++) {
            for (int at = kind; at >= 0; at = above[at]) {
                under[kind][at] = true;
            }
        }
        x.cast(0, 1, 77);
        for (int is = 0; is < 7; is++) {
            x.set(0, 0, is);
            for (int kind = 0; kind < 7; kind++) {
                due("4: " + is + " as " + kind, x.as(0, kind), under[is][kind] ? 77 : KIND);
            }
        }
        due("4: kind", x.as(0, 7), BEYOND);
        due("4: kind", x.as(0, -1), BEYOND);
        due("4: letter", x.as(1, 0), BEYOND);
        due("4: letter", x.as(-1, 0), BEYOND);
    }

    private static void setting() {
        IceType x = new IceType();
        x.cast(25, 1, 10);
        int[][] most = {{0, 6}, {1, 9}, {4, 3}, {6, 99}};
        int[] was = {2, 5, 0, 0};
        for (int i = 0; i < most.length; i++) {
            int what = most[i][0];
            due("5: was", x.set(0, what, most[i][1]), was[i]);
            due("5: is", x.letterIs(0, what), most[i][1]);
            due("5: more", x.set(0, what, most[i][1] + 1), BEYOND);
            due("5: less", x.set(0, what, -1), BEYOND);
            due("5: stays", x.letterIs(0, what), most[i][1]);
            due("5: least", x.set(0, what, 0), most[i][1]);
        }
        for (int what : new int[] {-1, 2, 3, 5, 7, 8, 9, MIN, MAX}) {
            due("5: what " + what, x.set(0, what, 1), BEYOND);
            due("5: what " + what, x.set(0, what, -1), BEYOND);
        }
        due("5: letter", x.set(1, 0, 0), BEYOND);
        due("5: letter", x.set(-1, 0, 0), BEYOND);
    }

    private static void meltingAndDrinking() {
        IceType x = new IceType();
        x.cast(0, 1, 100);
        x.cast(0, 1, 200);
        x.lay(3, 1);
        due("6: melts", x.melt(0), 100);
        due("6: water", x.count(2), 800);
        due("6: no ice", x.letterIs(0, 3), 0);
        due("6: again", x.melt(0), 0);
        due("6: in a page", x.melt(1), STATE);
        due("6: letter", x.melt(2), BEYOND);
        due("6: letter", x.melt(-1), BEYOND);
        x.sort(3);
        x.have(4, 99900);
        due("6: above", x.melt(1), 200);
        due("6: full", x.count(2), 99999);
        due("6: mist", x.count(4), 101);

        IceType y = new IceType();
        y.cast(0, 1, 100);
        y.lay(0, 0);
        due("7: drunk in a page", y.drink(0), 100);
        due("7: mist", y.count(4), 100);
        due("7: no ice", y.letterIs(0, 3), 0);
        due("7: water stays", y.count(2), 900);
        due("7: still there", y.pageIs(0, 0), 1);
        due("7: again", y.drink(0), 0);
        due("7: letter", y.drink(1), BEYOND);
        due("7: letter", y.drink(-1), BEYOND);
    }

    private static void having() {
        IceType x = new IceType();
        for (int room = 0; room < 4; room++) {
            due("8: cold", x.have(room, -9), 5);
            due("8: cold", x.have(room, 20), -9);
            due("8: too cold", x.have(room, 21), BEYOND);
            due("8: too warm", x.have(room, -10), BEYOND);
            due("8: cold is", x.count(10 + room), 20);
        }
        due("8: water", x.have(4, 99999), 1000);
        due("8: water", x.have(4, 0), 99999);
        due("8: water", x.have(4, 100000), BEYOND);
        due("8: water", x.have(4, -1), BEYOND);
        due("8: salt", x.have(5, 9999), 0);
        due("8: salt", x.have(5, 0), 9999);
        due("8: salt", x.have(5, 10000), BEYOND);
        due("8: salt", x.have(5, -1), BEYOND);
        due("8: what", x.have(6, 0), BEYOND);
        due("8: what", x.have(-1, 0), BEYOND);
    }

    private static void feeding() {
        IceType x = new IceType();
        due("9: n", x.feed(1L, 0), BEYOND);
        due("9: n", x.feed(1L, 9), BEYOND);
        due("9: n", x.feed(1L, -1), BEYOND);
        due("9: lowest first", x.feed(0x7A6362616263L, 3), 3);
        due("9: a word of them", x.word(), 0);
        x.cast(0, 3, 100);
        x.cast(0, 2, 100);
        x.cast(0, 1, 100);
        x.lay(0, 0);
        x.lay(0, 1);
        x.lay(0, 2);
        due("9: cba", x.said(0), 1);
        for (int i = 1; i <= 7; i++) {
            due("9: eight", x.feed(-1L, 8), 8 * i);
        }
        due("9: FULL", x.feed(-1L, 5), FULL);
        due("9: nothing came", x.count(6), 56);
        due("9: n is asked first", x.feed(-1L, 9), BEYOND);
        due("9: the last", x.feed(-1L, 4), 60);
        due("9: FULL", x.feed(0L, 1), FULL);
    }

    private static void texts() {
        worksOut("9999", 9999);
        worksOut("i", 999);
        worksOut("c", -7);
        worksOut("a", 11);
        worksOut("m", 3);
        worksOut("1-2-3", -4);
        worksOut("100/7/2", 7);
        worksOut("c/2", -3);
        worksOut("c%4", -3);
        worksOut("a%0+a/0", 0);
        worksOut("2+3*4", 14);
        worksOut("(2+3)*4", 20);
        worksOut("20-3*4%5", 18);
        worksOut("5|0", 1);
        worksOut("0|0", 0);
        worksOut("5&4", 1);
        worksOut("5&0", 0);
        worksOut("1|0&0", 1);
        worksOut("0&1|1", 1);
        worksOut("0&(1|1)", 0);
        worksOut("c<a", 1);
        worksOut("a<a", 0);
        worksOut("a=11", 1);
        worksOut("a=12", 0);
        worksOut("a>c", 1);
        worksOut("c>a", 0);
        worksOut("1+1<1+2", 1);
        worksOut("1<2&3>2|0", 1);
        worksOut("!0", 1);
        worksOut("!7", 0);
        worksOut("!!7", 1);
        worksOut("!0+5", 6);
        worksOut("!0*5", 5);
        worksOut("007", 7);
        worksOut("(((((m)))))".substring(1, 10), 3);
        worksOut("9999*9999*9999/1000/1000/1000", 9999 * 9999 * 9999 / 1000 / 1000 / 1000);
        worksOut("9999*9999*9999>0", 9999 * 9999 * 9999 > 0 ? 1 : 0);
        IceType x = new IceType();
        due("10: use", x.text(2), BEYOND);
        feed(x, "9");
        due("10: use", x.text(-1), BEYOND);
        due("10: the tape stays", x.count(6), 1);
        due("10: a text", x.text(0), 1);
        due("10: the tape is empty", x.count(6), 0);
        x.cast(60, 1, 500);
        due("10: drips", x.letterIs(0, 7), 9);
        due("10: a worse one", text(x, 0, "9+"), -12);
        due("10: the one ahead stays", x.letterIs(0, 7), 9);
        due("10: another", text(x, 0, "i/4"), 1);
        due("10: in its place", x.letterIs(0, 7), 125);
        due("10: drips stay off sees", x.letterIs(0, 9), 9);
        due("10: sees", text(x, 1, "g+s*2-r"), 1);
        due("10: 1 and 0 less 9", x.letterIs(0, 9), 0);
        x.lay(2, 0);
        x.press(2, 7);
        due("10: sheets", x.pageIs(2, 1), 7);
        due("10: reads", x.letterIs(0, 8), 6);
        due("10: 1 and 14 less 6", x.letterIs(0, 9), 9);
        text(x, 1, "s");
        due("10: s", x.letterIs(0, 9), 7);
        x.sort(2);
        due("10: s in none", x.letterIs(0, 9), 0);
    }

    private static void faults() {
        fault(0, "", 0);
        fault(0, "x", 0);
        fault(0, "r", 0);
        fault(0, "s", 0);
        fault(0, "g", 0);
        fault(1, "i", 0);
        fault(1, "c", 0);
        fault(1, "a", 0);
        fault(1, "m", 0);
        fault(0, " 1", 0);
        fault(0, "1 ", 1);
        fault(0, "12345", 4);
        fault(0, "1234567", 4);
        fault(0, "1i", 1);
        fault(0, "i1", 1);
        fault(0, "i+", 2);
        fault(0, "i+*", 2);
        fault(0, "-1", 0);
        fault(0, "1<2<3", 3);
        fault(0, "1=2=3", 3);
        fault(0, "1>2|3<4<5", 7);
        fault(0, "1)", 1);
        fault(0, "(1", 2);
        fault(0, "()", 1);
        fault(0, "(1))", 3);
        fault(0, "!", 1);
        fault(0, "!)", 1);
        fault(0, "1!", 1);
        fault(0, "i+3|", 4);
        fault(0, "1&&1", 2);
        fault(0, "!!!!!!1", 5);
        fault(0, "((((((1))))))", 5);
        fault(0, "(!(!(!1", 5);
        fault(0, "1+!(((((1", 7);
        fault(0, "1\u0000", 1);
        fault(0, "1\u00ff", 1);
        fault(0, "i\u00ab2", 1);
        IceType x = new IceType();
        due("10: five open", text(x, 0, "!!!!!1"), 1);
        due("10: five open", text(x, 0, "(((((1)))))"), 1);
        due("10: five open, again and again", text(x, 0, "!(!(!1))+!!(!(i))*(((((1)))))"), 1);
        StringBuilder sixty = new StringBuilder("10");
        for (int i = 0; i < 29; i++) {
            sixty.append("+1");
        }
        x.cast(60, 1, 900);
        due("10: sixty bytes", text(x, 0, sixty.toString()), 1);
        due("10: sixty bytes", x.letterIs(0, 7), 39);
        StringBuilder open = new StringBuilder("(");
        for (int i = 0; i < 29; i++) {
            open.append("1-");
        }
        due("10: sixty bytes, too early", text(x, 0, open.append("1").toString()), -70);
        due("10: the one ahead stays", x.letterIs(0, 7), 39);
    }

    private static void untelling() {
        IceType x = new IceType();
        x.cast(60, 1, 100);
        due("11: none", x.untell(0), 0);
        due("11: without", x.letterIs(0, 7), 0);
        x.have(0, -4);
        due("11: 3 - c", x.letterIs(0, 7), 7);
        text(x, 0, "2");
        text(x, 1, "5");
        due("11: there was", x.untell(0), 1);
        due("11: 3 - c again", x.letterIs(0, 7), 7);
        due("11: the other stays", x.letterIs(0, 9), 5);
        due("11: there was", x.untell(1), 1);
        due("11: r again", x.letterIs(0, 9), 9);
        due("11: gone", x.untell(1), 0);
        due("11: use", x.untell(2), BEYOND);
        due("11: use", x.untell(-1), BEYOND);
    }

    private static void words() {
        IceType x = new IceType();
        due("12: none", x.word(), -10);
        due("12: no a", word(x, "`"), -10);
        due("12: no z", word(x, "ab{d"), -12);
        due("12: the tape is empty", x.count(6), 0);
        due("12: the ninth", word(x, "abcdefghi"), -18);
        due("12: the ninth is no letter", word(x, "abcdefgh1"), -18);
        due("12: ahead of the ninth", word(x, "abcdefg1i"), -17);
        due("12: eight", word(x, "zbcdefga"), 0);
        for (int i = 1; i < 8; i++) {
            due("12: number", word(x, "a"), i);
        }
        due("12: how many", x.count(1), 8);
        due("12: FULL", word(x, "b"), FULL);
        due("12: the tape stays", x.count(6), 1);
        feed(x, "1");
        due("12: FULL ahead of what the tape has", x.word(), FULL);
        due("12: the tape stays", x.count(6), 2);
    }

    private static void saying() {
        IceType x = new IceType();
        word(x, "ab");
        word(x, "ac");
        word(x, "bb");
        word(x, "a");
        word(x, "abc");
        due("24: an empty page", x.said(0), 0);
        x.cast(0, 1, 90);
        x.cast(0, 2, 9);
        x.lay(0, 0);
        due("24: a", x.said(0), 8);
        x.lay(0, 1);
        due("24: the second is not read", x.said(0), 3);
        text(x, 1, "2=g");
        due("24: but by SEES alone it is", x.said(0), 5);
        text(x, 1, "0");
        due("24: nothing is", x.said(0), 7);
        due("24: page", x.said(4), BEYOND);
        due("24: page", x.said(-1), BEYOND);
    }

    private static void decrees() {
        IceType x = new IceType();
        x.cast(0, 1, 50);
        x.cast(0, 1, 10);
        x.cast(0, 1, 9);
        x.cast(0, 26, 10);
        x.cast(0, 2, 10);
        x.lay(0, 4);
        due("25: two", x.inCase(1), 2);
        due("25: in a page", x.inCase(2), 0);
        due("25: last", x.inCase(26), 1);
        due("25: glyph", x.inCase(0), BEYOND);
        due("25: glyph", x.inCase(27), BEYOND);
        text(x, 1, "0");
        due("25: by READ, not by SEES", x.inCase(1), 2);
        due("13: empty", x.decree(), 0);
        due("13: all", decree(x, "aza"), 3);
        due("13: the tape is empty", x.count(6), 0);
        due("13: a third", decree(x, "azaa"), 3);
        due("13: none of it", decree(x, "ba"), 0);
        due("13: no letter", decree(x, "aA"), 1);
        due("13: no letter", decree(x, "a{"), 1);
        due("13: no letter", decree(x, "a`"), 1);
        due("13: longer than a word", decree(x, "azabcdefghij"), 3);
    }

    private static void laying() {
        IceType x = new IceType();
        for (int i = 0; i < 10; i++) {
            x.cast(0, 1, 10 * i);
        }
        for (int i = 0; i < 8; i++) {
            due("14: how many", x.lay(2, 9 - i), i + 1);
        }
        due("14: FULL", x.lay(2, 0), FULL);
        due("14: STATE ahead of FULL", x.lay(2, 9), STATE);
        due("14: in another", x.lay(1, 9), STATE);
        due("14: page", x.lay(4, 0), BEYOND);
        due("14: page", x.lay(-1, 0), BEYOND);
        due("14: letter", x.lay(0, 10), BEYOND);
        due("14: letter", x.lay(0, -1), BEYOND);
        due("14: page of it", x.letterIs(9, 5), 2);
        due("16: how many", x.pageIs(2, 0), 8);
        due("16: sheets", x.pageIs(2, 1), 0);
        due("16: seen", x.pageIs(2, 2), 2);
        for (int i = 0; i < 8; i++) {
            due("16: place " + i, x.pageIs(2, 3 + i), 9 - i);
        }
        due("16: what", x.pageIs(2, 11), BEYOND);
        due("16: what", x.pageIs(2, -1), BEYOND);
        due("16: page", x.pageIs(4, 0), BEYOND);
        due("16: page", x.pageIs(-1, 0), BEYOND);
        x.press(2, 3);
        due("15: out", x.sort(2), 8);
        due("15: none now", x.pageIs(2, 0), 0);
        due("15: none there", x.pageIs(2, 3), -1);
        due("15: sheets stay", x.pageIs(2, 1), 3);
        due("15: in no page", x.letterIs(9, 5), -1);
        due("15: again", x.sort(2), 0);
        due("15: page", x.sort(4), BEYOND);
        due("15: page", x.sort(-1), BEYOND);
        due("15: can be laid again", x.lay(0, 9), 1);
        allLetters();
    }

    /** All 24 letters at once, three pages full of them; the last is the one that is read worst. */
    private static void allLetters() {
        IceType x = new IceType();
        for (int i = 0; i < 24; i++) {
            x.cast(0, 1 + i, 40);
        }
        x.set(23, 1, 9);
        for (int i = 0; i < 24; i++) {
            due("14: how many", x.lay(3 - i / 8, i), 1 + i % 8);
        }
        due("16: the last", x.pageIs(1, 10), 23);
        due("16: seen by the last", x.pageIs(1, 2), 2);
        due("16: seen", x.pageIs(2, 2), 4);
        x.have(0, 4);
        due("17: none clear", x.press(1, 2), 0);
        due("17: the last melts", x.letterIs(23, 3), 38);
        due("21: two of the three", x.order(2, -1), 4);
        due("15: out", x.sort(1), 8);
        due("15: in no page", x.letterIs(23, 5), -1);
        due("25: the last", x.inCase(24), 1);
    }

    private static void pressing() {
        IceType x = new IceType();
        x.cast(0, 1, 42);
        x.cast(50, 2, 60);
        x.have(0, 1);
        x.lay(0, 0);
        x.lay(0, 1);
        x.set(1, 6, 98);
        due("17: n", x.press(0, 0), BEYOND);
        due("17: n", x.press(0, 100), BEYOND);
        due("17: page", x.press(4, 1), BEYOND);
        due("17: page", x.press(-1, 1), BEYOND);
        due("17: one clear", x.press(0, 2), 1);
        due("17: ice", x.letterIs(0, 3), 34);
        due("17: by age ahead of it", x.letterIs(1, 3), 60 - 28 - 28);
        due("17: age", x.letterIs(0, 6), 2);
        due("17: 99 at most", x.letterIs(1, 6), 99);
        due("17: water", x.count(2), 1000 - 102 + 8 + 56);
        due("17: sheets", x.pageIs(0, 1), 2);
        x.have(4, 99998);
        due("17: not clear", x.press(0, 1), 0);
        due("17: full", x.count(2), 99999);
        due("17: mist", x.count(4), 7);
        due("17: an empty page is clear", x.press(3, 99), 99);

        IceType y = new IceType();
        for (int i = 0; i < 101; i++) {
            y.press(1, 99);
        }
        due("17: 9999", y.pageIs(1, 1), 9999);
        due("17: no more", y.press(1, 1), STATE);
        due("17: BEYOND first", y.press(1, 100), BEYOND);
        due("17: of another page", y.press(2, 1), 1);
        due("17: still", y.pageIs(1, 1), 9999);
        due("17: runs go on", y.run(1, 99), 99);
    }

    private static void looking() {
        IceType x = new IceType();
        x.cast(0, 1, 50);
        x.cast(0, 2, 90);
        x.have(0, 0);
        x.lay(1, 0);
        x.lay(1, 1);
        due("18: up to the first", x.run(1, 99), 5);
        due("18: of n", x.run(1, 4), 4);
        due("18: of none", x.run(1, 0), 0);
        due("18: n", x.run(1, 100), BEYOND);
        due("18: n", x.run(1, -1), BEYOND);
        due("18: page", x.run(4, 1), BEYOND);
        due("18: page", x.run(-1, 1), BEYOND);
        due("19: first", x.lost(0), 5);
        due("19: the other", x.lost(1), 13);
        due("19: letter", x.lost(2), BEYOND);
        due("19: letter", x.lost(-1), BEYOND);
        due("20: now", x.then(0, 0, 3), 50);
        due("20: ice", x.then(0, 3, 3), 35);
        due("20: age", x.then(0, 99, 6), 99);
        due("20: no ice", x.then(0, 99, 3), 0);
        due("20: melts", x.then(0, 9, 7), 5);
        due("20: no more", x.then(0, 10, 7), 0);
        due("20: read", x.then(1, 4, 8), 7);
        due("20: page", x.then(1, 4, 5), 1);
        text(x, 1, "s");
        due("20: sees", x.then(1, 4, 9), 4);
        due("18: sees counts sheets", x.run(1, 9), 0);
        x.press(1, 3);
        due("18: from now on", x.run(1, 9), 9);
        due("20: sees from now on", x.then(1, 4, 9), 7);
        due("20: n", x.then(0, 100, 0), BEYOND);
        due("20: n", x.then(0, -1, 0), BEYOND);
        due("20: what", x.then(0, 0, 10), BEYOND);
        due("20: what", x.then(0, 0, -1), BEYOND);
        due("20: letter", x.then(2, 0, 0), BEYOND);
        due("18: nothing changed", x.letterIs(0, 3), 35);
        x.sort(1);
        due("19: in no page", x.lost(0), STATE);
        due("20: in no page", x.then(0, 0, 0), STATE);
        due("20: BEYOND first", x.then(0, 0, 10), BEYOND);
        lastLooks();
    }

    /** Letters that are lost behind the 99th sheet, or one later. */
    private static void lastLooks() {
        IceType x = new IceType();
        x.cast(0, 1, 30);
        x.lay(0, 0);
        due("19: NONE", x.lost(0), NONE);
        text(x, 1, "9-(s>98)*9");
        due("19: by 99", x.lost(0), 99);
        due("18: by 99", x.run(0, 99), 99);
        text(x, 1, "9-(s>99)*9");
        due("19: not by 99", x.lost(0), NONE);
        text(x, 1, "2");
        due("19: at once", x.lost(0), 0);
    }

    private static void ordering() {
        IceType x = new IceType();
        due("21: none", x.order(1, -1), 0);
        due("21: no first", x.order(1, 0), NONE);
        due("21: n", x.order(0, -1), BEYOND);
        due("21: n", x.order(21, -1), BEYOND);
        due("21: i", x.order(1, -2), BEYOND);
        due("21: i", x.order(1, MIN), BEYOND);
        // Page 0 keeps for ever, page 2 is clear for 3 sheets, page 3 for 6.
        x.have(0, 0);
        x.cast(0, 1, 100);
        x.set(0, 4, 1);
        x.cast(0, 1, 44);
        x.cast(0, 1, 59);
        x.lay(0, 0);
        x.lay(2, 1);
        x.lay(3, 2);
        due("21: 3, 3, 3", x.order(3, -1), 9);
        due("21: first", x.order(3, 0), 2);
        due("21: second", x.order(3, 1), 3);
        due("21: third", x.order(3, 2), 0);
        due("21: no fourth", x.order(3, 3), NONE);
        due("21: no such", x.order(3, MAX), NONE);
        due("21: 20, 6 (3 and 3 are no better)", x.order(20, -1), 26);
        due("21: first", x.order(20, 0), 3);
        due("21: the first row of several", x.order(20, 1), 0);
        due("21: last", x.order(20, 2), 2);
        due("21: 1 each in any order", x.order(1, 0) * 100 + x.order(1, 1) * 10 + x.order(1, 2), 23);
        due("21: nothing changed", x.letterIs(1, 3), 44);
        waitingKeepsAge();
    }

    /** An old letter that waits does not age, so it is read longer than by sheets of its own page. */
    private static void waitingKeepsAge() {
        IceType x = new IceType();
        x.cast(50, 1, 90);
        x.cast(0, 1, 20);
        x.set(0, 6, 3);
        x.lay(0, 0);
        x.lay(1, 1);
        due("21: all clear in its turn", x.order(10, -1), 10);
        due("21: the first row", x.order(10, 0), 0);
        text(x, 1, "r*(s<2)");
        due("21: s counts sheets of its own page", x.order(10, -1), 2);
    }

    private static void rooms() {
        IceType x = new IceType();
        x.cast(0, 1, 60);
        x.cast(0, 1, 60);
        x.lay(0, 0);
        x.lay(0, 1);
        x.have(0, 0);
        x.have(1, 2);
        x.have(2, 3);
        x.have(3, 3);
        due("22: best", x.room(0, 99), 2);
        due("22: enough in any", x.room(0, 7), 0);
        due("22: 8 sheets", x.room(0, 8), 1);
        due("22: 0 sheets", x.room(0, 0), 0);
        due("22: empty", x.room(1, 99), 0);
        due("22: n", x.room(0, 100), BEYOND);
        due("22: n", x.room(0, -1), BEYOND);
        due("22: page", x.room(4, 1), BEYOND);
        due("22: page", x.room(-1, 1), BEYOND);
        due("22: nothing moved", x.letterIs(0, 4) + x.letterIs(1, 4), 0);
    }

    private static void needing() {
        IceType x = new IceType();
        x.cast(5, 1, 1);
        x.cast(0, 1, 0);
        x.have(0, 1);
        x.lay(0, 0);
        x.lay(0, 1);
        due("23: now", x.needs(0, 1), 45);
        due("23: two", x.needs(0, 2), 49);
        due("23: thirty", x.needs(0, 30), 45 + 29 * 4);
        due("23: n", x.needs(0, 0), BEYOND);
        due("23: n", x.needs(0, 31), BEYOND);
        due("23: letter", x.needs(2, 1), BEYOND);
        due("23: letter", x.needs(-1, 1), BEYOND);
        due("23: nothing changed", x.letterIs(0, 3), 1);
        text(x, 1, "3");
        due("23: none at all", x.needs(0, 30), 0);
        text(x, 1, "2");
        due("23: NONE", x.needs(0, 1), NONE);
        text(x, 1, "9*(r=5)");
        due("23: not less, not more", x.needs(0, 4), 75 + 12);
        due("23: no such ice", x.needs(0, 5), NONE);
        x.untell(1);
        x.set(1, 0, 6);
        text(x, 0, "i*(i<999)");
        due("23: only the most does not melt", x.needs(1, 2), 999);
        text(x, 0, "i");
        due("23: not even the most", x.needs(1, 2), NONE);
        x.sort(0);
        due("23: in no page", x.needs(0, 1), STATE);
        due("23: BEYOND first", x.needs(0, 31), BEYOND);
    }

    private static void warmDays() {
        IceType x = new IceType();
        due("26: n", x.days(0), BEYOND);
        due("26: n", x.days(21), BEYOND);
        due("26: no draw", x.count(9), 1);
        x.cast(0, 1, 100);
        x.cast(0, 1, 100);
        x.lay(0, 1);
        int z = 1;
        int cold = 5;
        int ice = 100;
        int mist = 0;
        for (int n = 1; n <= 20; n++) {
            int gone = 0;
            for (int i = 0; i < n; i++) {
                z = z * 1103515245 + 12345;
                cold = Math.max(-9, Math.min(20, cold - ((z >>> 8) % 7 - 3)));
                int half = Math.min(ice, Math.max(0, 5 - cold)) / 2;
                ice -= half;
                gone += half;
            }
            mist += gone;
            due("26: gone", x.days(n), gone);
            due("26: z", x.count(9), z);
            due("26: cold", x.count(10), cold);
            due("26: cold", x.count(13), cold);
            due("26: ice", x.letterIs(0, 3), ice);
            due("26: mist", x.count(4), mist);
        }
        due("26: in a page", x.letterIs(1, 3), 100);
        due("26: no age", x.letterIs(0, 6), 0);
        due("26: no water", x.count(2), 800);
        due("27: was", x.seed(MIN), z);
        due("27: any number", x.seed(-1000000001), MIN);
        due("27: any number", x.count(9), -1000000001);
        due("27: is no ERROR", x.told(1), 2);
    }

    private static void trace(IceType x, int... bodies) {
        due("29: how many", x.count(8), bodies.length);
        for (int i = 0; i < bodies.length; i++) {
            due("29: body " + i, x.body(i), bodies[i]);
        }
        due("29: no more", x.body(bodies.length), NONE);
        due("29: none", x.body(-1), NONE);
    }

    private static void voices() {
        IceType x = new IceType();
        for (int i = 0; i < 4; i++) {
            x.cast(5, 1, 10);
        }
        int k = 3;
        int m = 5;
        due("28: melts", x.voice(3, 0, MAX), MAX + k);
        trace(x, 10);
        due("28: reads", x.voice(3, 1, 7), 20);
        trace(x, 11, 10);
        due("28: drips", x.voice(3, 2, 7), 15);
        trace(x, 12, 11, 10);
        due("28: casts", x.voice(3, 3, -7), -3);
        trace(x, 13);
        x.set(3, 0, 1);
        due("28: thin melts", x.voice(3, 0, 7), 4);
        trace(x, 20, 10);
        due("28: thin casts", x.voice(3, 3, 9), 4 + (1 + k - 6) * 2);
        trace(x, 21, 13, 11, 20, 10);
        x.set(3, 0, 2);
        due("28: bold reads", x.voice(3, 1, 7), -20);
        trace(x, 30, 11, 10);
        due("28: bold drips", x.voice(3, 2, 7), -25);
        trace(x, 12, 30, 11, 10);
        x.set(3, 0, 3);
        due("28: salted melts", x.voice(3, 0, 7), 12);
        trace(x, 40, 20, 10);
        due("28: salted drips", x.voice(3, 2, 7), (12 * 2 - m) ^ k);
        trace(x, 41, 12, 11, 40, 20, 10);
        due("28: salted casts", x.voice(3, 3, 9), 4 + (1 + k - 6) * 3 * 2);
        trace(x, 21, 13, 11, 40, 20, 10);
        x.set(3, 0, 4);
        due("28: capital reads", x.voice(3, 1, 7), -22);
        trace(x, 50, 30, 11, 10);
        x.set(3, 0, 5);
        due("28: old drips", x.voice(3, 2, -7), (-3 + k) * 2 - m);
        trace(x, 60, 12, 11, 10);
        x.set(3, 0, 6);
        due("28: told melts", x.voice(3, 0, 7), 2);
        trace(x, 70);
        due("28: told reads", x.voice(3, 1, 7), 9);
        trace(x, 71, 11, 70);
        due("28: told drips", x.voice(3, 2, 7), 4);
        trace(x, 12, 71, 11, 70);
        partings(x);
    }

    private static void partings(IceType x) {
        x.set(3, 0, 3);
        x.set(3, 1, 3);
        due("28: PARTED", x.voice(3, 3, 9), PARTED);
        trace(x, 21, 13);
        x.set(3, 1, 2);
        due("28: wraps", x.voice(3, 3, MIN), MIN + (1 + 3 - 6) * 3 * 2);
        due("28: like an ERROR", x.voice(0, 0, -1000000001), -1000000001);
        due("40: but none", x.told(1), 0);
        trace(x, 10);
        due("28: letter", x.voice(4, 0, 0), BEYOND);
        due("28: letter", x.voice(-1, 0, 0), BEYOND);
        due("28: voice", x.voice(0, 4, 0), BEYOND);
        due("28: voice", x.voice(0, -1, 0), BEYOND);
        trace(x, 10);
        due("40: parted once", x.told(6), 1);
    }

    private static void platesOfNumbers() {
        IceType x = new IceType();
        due("30: plate", x.sheet(4, 8, 1), BEYOND);
        due("30: plate", x.sheet(-1, 0, 1), BEYOND);
        due("30: bits", x.sheet(0, 7, -1), BEYOND);
        due("30: bits", x.sheet(0, 64, 1), BEYOND);
        due("30: STATE", x.sheet(0, 8, -1), STATE);
        due("30: n", x.sheet(0, 8, 25), BEYOND);
        due("30: missing", x.sheet(0, 0, -7), 1);
        due("30: missing", x.sheet(0, 0, MAX), 1);
        due("31: missing", x.put(0, 0, 1), NONE);
        due("31: plate", x.put(4, 0, 1), BEYOND);
        due("31: plate", x.put(-1, 0, 1), BEYOND);
        due("30: 8", x.sheet(0, 8, 24), 1);
        due("31: last", x.put(0, 23, 1), 1);
        due("31: number", x.put(0, 24, 1), BEYOND);
        due("31: number", x.put(0, -1, 1), BEYOND);
        due("30: of none", x.sheet(1, 32, 0), 1);
        due("31: number", x.put(1, 0, 1), BEYOND);
        due("34: of none", x.judge(1, 0), 0);
        due("33: of none", x.casts(1), 0);
        // What a plate holds is seen by judging: an empty page is seen as 9.
        int[] bits = {8, 16, 32};
        for (int b : bits) {
            x.sheet(0, b, 2);
            due("30: all 0", x.judge(0, 0), 0);
            x.put(0, 0, 9);
            due("31: 9", x.judge(0, 0), 1);
            x.put(0, 1, 9 + 256);
            due("31: lowest 8", x.judge(0, 0), b == 8 ? 2 : 1);
            x.put(0, 1, 9 + 65536 * 3);
            due("31: lowest 16", x.judge(0, 0), b == 32 ? 1 : 2);
            x.put(0, 1, 9 - 65536);
            due("31: lowest 16", x.judge(0, 0), b == 32 ? 1 : 2);
        }
        x.sheet(0, 32, 2);
        due("30: all 0 again", x.judge(0, 0), 0);
    }

    private static void moving() {
        IceType x = new IceType();
        due("32: plate", x.move(4, 0, 0, 0, 0), BEYOND);
        due("32: plate", x.move(0, 0, -1, 0, 0), BEYOND);
        due("32: missing", x.move(0, 0, 1, 0, 0), NONE);
        x.sheet(0, 8, 5);
        due("32: one missing", x.move(0, 0, 1, 0, 0), NONE);
        due("32: one missing", x.move(1, -1, 0, 0, 0), NONE);
        x.sheet(1, 16, 5);
        due("32: KIND", x.move(0, -1, 1, 0, 0), KIND);
        x.sheet(1, 8, 3);
        due("32: n", x.move(0, 0, 1, 0, -1), BEYOND);
        due("32: i", x.move(0, -1, 1, 0, 0), BEYOND);
        due("32: j", x.move(0, 0, 1, -1, 0), BEYOND);
        due("32: i", x.move(0, 6, 1, 0, 0), BEYOND);
        due("32: j", x.move(0, 0, 1, 4, 0), BEYOND);
        due("32: none at the end", x.move(0, 5, 1, 3, 0), 0);
        due("32: from there", x.move(0, 3, 1, 0, 3), BEYOND);
        due("32: to there", x.move(0, 0, 1, 1, 3), BEYOND);
        due("32: far", x.move(0, MAX, 1, 0, MAX), BEYOND);
        due("32: far", x.move(0, 1, 1, 1, MAX), BEYOND);
        for (int i = 0; i < 3; i++) {
            x.put(0, i, 9);
        }
        due("32: all", x.move(0, 0, 1, 0, 3), 3);
        due("32: came", x.judge(1, 0), 3);
        due("32: over itself", x.move(0, 0, 0, 2, 3), 3);
        due("32: as they were", x.judge(0, 0), 5);
        x.put(0, 4, 1);
        x.put(0, 3, 2);
        due("32: back", x.move(0, 1, 0, 0, 4), 4);
        due("32: 9, 9, 2, 1, 1", x.judge(0, 0), 2);
        x.put(0, 2, 9);
        due("32: 9, 9, 9, 1, 1", x.judge(0, 0), 3);
    }

    private static void castsOfPlates() {
        IceType x = new IceType();
        due("33: plate", x.casts(4), BEYOND);
        due("33: plate", x.casts(-1), BEYOND);
        due("33: missing", x.casts(0), NONE);
        x.sheet(0, 16, 24);
        due("33: no such glyph", x.casts(0), 0);
        for (int i = 0; i < 8; i++) {
            x.put(0, 3 * i, 10 * (i % 7));
            x.put(0, 3 * i + 1, i + 1);
            x.put(0, 3 * i + 2, 100 * i);
        }
        due("33: up to what water gives", x.casts(0), 5);
        due("33: no ERROR", x.told(1) + x.told(3), 2);
        due("33: they came", x.count(0), 5);
        due("33: kind", x.letterIs(4, 0), 4);
        due("33: glyph", x.letterIs(4, 2), 5);
        due("33: ice", x.letterIs(4, 3), 400);
        x.have(4, 99999);
        due("33: all", x.casts(0), 8);
        due("33: all", x.casts(0), 8);
        due("33: up to 24", x.casts(0), 3);
        due("33: no ERROR", x.told(4), 0);

        IceType y = new IceType();
        y.sheet(0, 8, 5);
        y.put(0, 1, 1);
        y.put(0, 4, 1);
        due("33: not whole", y.casts(0), 1);
        y.put(0, 2, 200);
        due("33: with a sign", y.casts(0), 0);
    }

    private static void judging() {
        IceType x = new IceType();
        x.cast(0, 1, 50);
        x.cast(0, 1, 41);
        x.have(0, 0);
        x.lay(0, 0);
        x.lay(0, 1);
        x.sheet(3, 8, 5);
        int[] seen = {4, 3, 3, 2, 2};
        for (int i = 0; i < 5; i++) {
            due("34: the first", x.judge(3, 0), i);
            x.put(3, i, seen[i]);
        }
        due("34: as many", x.judge(3, 0), 5);
        due("34: nothing changed", x.letterIs(0, 3), 50);
        x.press(0, 1);
        due("34: from now on", x.judge(3, 0), 0);
        due("34: plate", x.judge(4, 0), BEYOND);
        due("34: plate", x.judge(-1, 0), BEYOND);
        due("34: page", x.judge(3, 4), BEYOND);
        due("34: page, missing", x.judge(0, -1), BEYOND);
        due("34: missing", x.judge(0, 0), NONE);
    }

    private static void images() {
        IceType x = new IceType();
        x.have(5, 50);
        x.have(3, 7);
        x.cast(11, 4, 70);
        x.cast(60, 4, 70);
        x.lay(2, 0);
        x.press(2, 4);
        text(x, 0, "c+m");
        text(x, 1, "r/2");
        word(x, "d");
        feed(x, "ab");
        x.tell(5);
        x.seed(77);
        x.sheet(0, 8, 1);
        x.voice(0, 1, 1);
        due("35: first", x.image(), 1);
        int[] counts = new int[14];
        int[][] facts = new int[2][10];
        for (int i = 0; i < 14; i++) {
            counts[i] = x.count(i);
        }
        for (int i = 0; i < 20; i++) {
            facts[i / 10][i % 10] = x.letterIs(i / 10, i % 10);
        }
        for (int round = 0; round < 2; round++) {
            x.tell(1);
            x.check(7);
            x.word();
            x.untell(0);
            text(x, 1, "1");
            x.press(2, 3);
            x.press(0, 3);
            x.sort(2);
            x.lay(0, 1);
            x.cast(20, 1, 10);
            x.set(0, 4, 3);
            x.set(1, 1, 3);
            x.days(3);
            x.drink(0);
            x.have(4, 123);
            x.have(5, 123);
            x.put(0, 0, 9);
            x.voice(1, 0, 1);
            due("36: water", x.restore(), counts[2]);
            for (int i = 0; i < 14; i++) {
                due("36: count " + i, x.count(i), i == 8 ? 1 : counts[i]);
            }
            for (int i = 0; i < 20; i++) {
                due("36: fact " + i, x.letterIs(i / 10, i % 10), facts[i / 10][i % 10]);
            }
            due("36: page", x.pageIs(2, 3), 0);
            due("36: sheets", x.pageIs(2, 1) * 10 + x.pageIs(0, 1), 40);
            due("36: no plates", x.judge(0, 0), 1);
            due("36: said", x.said(2), 1);
            due("36: what is told stays", x.told(1), round + 1);
        }
        due("36: what waits", x.tell(3), 2);
        due("36: the tape", x.word(), 1);
        due("35: again", x.image(), 2);
        x.press(2, 1);
        x.restore();
        due("35: in its place", x.count(7), 1 + 1);
        due("35: in its place", x.count(1), 2);
        due("35: how often stays", x.image(), 3);
    }

    private static void checking() {
        IceType x = new IceType();
        x.cast(0, 1, 80);
        x.cast(0, 1, 50);
        x.lay(1, 0);
        x.lay(1, 1);
        due("38: lacks", x.check(1), 1);
        due("37: one", x.tell(8), 1);
        due("38: lacks", x.check(1), 2);
        x.tell(8);
        due("37: two", x.tell(5), 2);
        due("38: so", x.check(1), 0);
        due("38: none wait", x.count(7), 0);
        x.tell(8);
        x.tell(5);
        x.tell(0);
        due("38: too many", x.check(1), 3);
        x.tell(7);
        x.tell(5);
        due("38: the first", x.check(1), 1);
        text(x, 1, "r-s");
        x.press(1, 2);
        x.tell(6);
        x.tell(3);
        due("38: by SEES", x.check(1), 0);
        due("38: none of none", x.check(0), 0);
        x.tell(1);
        due("38: one of none", x.check(0), 1);
        x.tell(1);
        due("38: page", x.check(4), BEYOND);
        due("38: none wait", x.count(7), 0);
        due("38: page", x.check(-1), BEYOND);
        for (int i = 1; i <= 24; i++) {
            due("37: how many", x.tell(MIN), i);
        }
        due("37: FULL", x.tell(1), FULL);
        due("37: still", x.count(7), 24);
    }

    private static void counting() {
        IceType x = new IceType();
        due("39: what", x.count(14), BEYOND);
        due("39: what", x.count(-1), BEYOND);
        x.cast(0, 1, 80);
        x.cast(0, 1, 50);
        x.lay(0, 0);
        x.have(1, 1);
        x.have(2, 2);
        x.have(3, -3);
        x.have(5, 8);
        x.drink(1);
        word(x, "a");
        feed(x, "ab");
        x.tell(1);
        x.voice(0, 1, 1);
        int[] counts = {2, 1, 870, 8, 50, 80, 2, 1, 2, 1, 5, 1, 2, -3};
        for (int i = 0; i < counts.length; i++) {
            due("39: count " + i, x.count(i), counts[i]);
        }
    }

    private static void telling() {
        IceType x = new IceType();
        for (int k = 1; k <= 6; k++) {
            due("40: none", x.told(k), 0);
        }
        due("40: k", x.told(0), BEYOND);
        due("40: k", x.told(7), BEYOND);
        due("40: k", x.told(MIN), BEYOND);
        due("40: counted, too", x.told(1), 3);
        x.body(0);
        x.restore();
        due("40: NONE", x.told(2), 2);
        x.cast(0, 1, 0);
        x.lost(0);
        due("40: STATE", x.told(3), 1);
        x.as(0, 4);
        due("40: KIND", x.told(5), 1);
        x.voice(0, 3, 5);
        x.voice(0, 3, 5);
        due("40: PARTED", x.told(6), 2);
        for (int i = 0; i < 26; i++) {
            x.tell(i);
        }
        due("40: FULL", x.told(4), 2);
    }

    public static void main(String[] args) {
        newObject();
        casting();
        castingInSalt();
        facts();
        meltsAndReads();
        asKinds();
        setting();
        meltingAndDrinking();
        having();
        feeding();
        texts();
        faults();
        untelling();
        words();
        saying();
        decrees();
        laying();
        pressing();
        looking();
        ordering();
        rooms();
        needing();
        warmDays();
        voices();
        platesOfNumbers();
        moving();
        castsOfPlates();
        judging();
        images();
        checking();
        counting();
        telling();
        System.out.println(asked + " answers, " + wrong + " not as due");
        if (wrong != 0) {
            System.exit(1);
        }
    }
}
