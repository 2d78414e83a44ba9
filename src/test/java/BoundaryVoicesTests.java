/** The boundaries that promises 28 to 40 name (voices, plates, images, what is told), a sentence at a time. */
public final class BoundaryVoicesTests extends Sentences {
    /** Nines up to the first other number: a page without letters is seen as 9. */
    private static int nines(IceType x, int sheet) {
        return x.judge(sheet, 3);
    }

    private static void voice() {
        promise(28, "A VOICE of a LETTER (0 .. 3)", x -> {
            castSome(x, 2, 0);
            due(x.voice(1, 0, 7), 8);
            due(x.voice(1, 1, 7), 16);
            due(x.voice(1, 2, 7), 16);
            due(x.voice(1, 3, 7), -7);
        });
        promise(28, "(k is its number: the last LETTER's, too)", x -> {
            castSome(x, 24, 0);
            due(x.voice(23, 0, 0), 23);
            due(x.voice(23, 3, 46), -2);
        });
        promise(28, "BEYOND: LETTER", x -> {
            castSome(x, 2, 0);
            beyond(0, 1, v -> x.voice(v, 0, 0));
        });
        promise(28, "BEYOND: VOICE", x -> {
            x.cast(1, 1, 0);
            beyond(0, 3, v -> x.voice(0, v, 0));
        });
        promise(28, "PARTED", x -> {
            castSome(x, 1, 0);
            for (int kind = 0; kind < 7; kind++) {
                x.set(0, 0, kind);
                due(x.voice(0, 3, 9), PARTED);
            }
            due(x.voice(0, 0, 9), 2);
            x.set(0, 1, 1);
            due(x.voice(0, 3, 9), 9);
            due(x.told(6), 7);
        });
        promise(28, "BEYOND is asked ahead of PARTED", x -> {
            castSome(x, 1, 0);
            due(x.voice(0, 4, 0), BEYOND);
            due(x.voice(1, 3, 0), BEYOND);
        });
        promise(28, "(an answer that looks like an ERROR is none)", x -> {
            castSome(x, 1, 0);
            for (int error = BEYOND; error >= PARTED; error--) {
                due(x.voice(0, 0, error), error);
            }
            due(toldOfAll(x), 0);
        });
    }

    private static void body() {
        promise(29, "THE TRACE's i-th", x -> {
            x.cast(1, 1, 0);
            x.voice(0, 2, 1);
            due(x.body(0), 12);
            due(x.body(1), 11);
            due(x.body(2), 10);
        });
        promise(29, "NONE: there is none such", x -> {
            due(x.body(0), NONE);
            x.cast(1, 1, 0);
            x.voice(0, 2, 1);
            for (int i : new int[] {-1, 3, 29, 30, MIN, MAX}) {
                due(x.body(i), NONE);
            }
        });
        promise(29, "of the latest voice() (PARTED, too)", x -> {
            castSome(x, 1, 0);
            x.voice(0, 2, 1);
            x.voice(0, 3, 1);
            due(x.count(8), 1);
            due(x.body(0), 13);
            due(x.body(1), NONE);
        });
        promise(29, "(not of one that was BEYOND)", x -> {
            castSome(x, 1, 0);
            x.voice(0, 2, 1);
            x.voice(1, 0, 1);
            x.voice(0, 4, 1);
            due(x.count(8), 3);
            due(x.body(0), 12);
        });
    }

    private static void sheet() {
        promise(30, "A PLATE has n numbers, all 0", x -> {
            castSome(x, 1, 0);
            x.lay(0, 0);
            for (int bits = 8; bits <= 32; bits *= 2) {
                due(x.sheet(3, bits, 24), 1);
                due(x.judge(3, 0), 24);
                due(x.put(3, 23, 1), 1);
                due(x.judge(3, 0), 23);
                due(x.sheet(3, bits, 24), 1);
                due(x.judge(3, 0), 24);
            }
        });
        promise(30, "(in place of those ahead, as few as they may be)", x -> {
            plate(x, 0, 8, 9, 9, 9);
            x.sheet(0, 8, 1);
            due(x.put(0, 1, 9), BEYOND);
            x.sheet(0, 8, 3);
            due(nines(x, 0), 0);
            x.put(0, 0, 9);
            due(nines(x, 0), 1);
        });
        promise(30, "(n 0: a PLATE without numbers is not missing)", x -> {
            due(x.sheet(0, 8, 0), 1);
            due(nines(x, 0), 0);
            due(x.casts(0), 0);
            due(x.put(0, 0, 1), BEYOND);
        });
        promise(30, "of so many bits (8, 16, 32; 0)", x -> {
            int[] wrong = {-1, 1, 4, 7, 9, 15, 17, 24, 31, 33, 64, -8, MIN, MAX};
            for (int bits : wrong) {
                due(x.sheet(0, bits, 1), BEYOND);
                due(x.casts(0), NONE);
            }
        });
        promise(30, "0: it is missing, n doesn't matter at all", x -> {
            for (int n : new int[] {0, 1, 24, 25, -1, MIN, MAX}) {
                x.sheet(0, 8, 3);
                due(x.sheet(0, 0, n), 1);
                due(x.put(0, 0, 1), NONE);
            }
        });
        promise(30, "BEYOND: PLATE", x -> {
            beyond(0, 3, v -> x.sheet(v, 8, 1));
            beyond(0, 3, v -> x.sheet(v, 0, 1));
        });
        promise(30, "STATE: n is below 0 (ahead of BEYOND of n)", x -> {
            x.sheet(0, 8, 3);
            due(x.sheet(0, 8, -1), STATE);
            due(x.sheet(0, 16, MIN), STATE);
            due(x.put(0, 2, 1), 1);
        });
        promise(30, "BEYOND of n", x -> {
            due(x.sheet(0, 8, 24), 1);
            due(x.sheet(0, 8, 25), BEYOND);
            due(x.sheet(0, 8, MAX), BEYOND);
            due(x.put(0, 23, 1), 1);
        });
        promise(30, "BEYOND (of PLATE, bits) is asked ahead of STATE", x -> {
            due(x.sheet(4, 8, -1), BEYOND);
            due(x.sheet(0, 9, -1), BEYOND);
        });
    }

    private static void put() {
        promise(31, "Number i of a PLATE becomes v", x -> {
            plate(x, 3, 32, 9, 8, 9);
            due(nines(x, 3), 1);
            due(x.put(3, 1, 9), 1);
            due(nines(x, 3), 3);
        });
        promise(31, "(its lowest bits)", x -> {
            int[] bits = {8, 16, 32};
            for (int b : bits) {
                plate(x, 0, b, 9 + (1 << 8));
                due(nines(x, 0), b == 8 ? 1 : 0);
                x.put(0, 0, 9 + (1 << 16));
                due(nines(x, 0), b == 32 ? 0 : 1);
                x.put(0, 0, 9 + MIN);
                due(nines(x, 0), b == 32 ? 0 : 1);
                x.put(0, 0, 9 - (1 << 16));
                due(nines(x, 0), b == 32 ? 0 : 1);
                x.put(0, 0, 9 + (1 << 7));
                due(nines(x, 0), 0);
                x.put(0, 0, 9 + (1 << 15));
                due(nines(x, 0), b == 8 ? 1 : 0);
            }
        });
        promise(31, "BEYOND: no such PLATE", x -> {
            x.sheet(3, 8, 1);
            beyond(0, 3, v -> x.put(v, 0, 1));
        });
        promise(31, "NONE: it is missing", x -> {
            due(x.put(0, 0, 1), NONE);
            due(x.put(0, -1, 1), NONE);
            x.sheet(0, 8, 1);
            x.sheet(0, 0, 1);
            due(x.put(0, 0, 1), NONE);
        });
        promise(31, "BEYOND: no such number", x -> {
            x.sheet(0, 8, 2);
            beyond(0, 1, v -> x.put(0, v, 1));
            due(x.put(0, 1, 1), 1);
            x.sheet(0, 8, 24);
            beyond(0, 23, v -> x.put(0, v, 1));
        });
    }

    private static void move() {
        promise(32, "n numbers of a PLATE come to another one: n", x -> {
            plate(x, 0, 16, 9, 9, 1);
            plate(x, 1, 16, 1, 1, 1, 1);
            due(x.move(0, 0, 1, 2, 2), 2);
            due(nines(x, 1), 0);
            due(x.move(0, 0, 1, 0, 2), 2);
            due(nines(x, 1), 4);
            due(nines(x, 0), 2);
            due(x.move(0, 2, 1, 3, 1), 1);
            due(nines(x, 1), 3);
        });
        promise(32, "(or the same), as they all were: ahead", x -> {
            plate(x, 0, 8, 1, 9, 9, 9, 1);
            due(x.move(0, 1, 0, 0, 4), 4);
            due(nines(x, 0), 3);
        });
        promise(32, "(or the same), as they all were: behind", x -> {
            plate(x, 0, 8, 9, 8, 7, 1, 1);
            due(x.move(0, 0, 0, 1, 4), 4);
            due(nines(x, 0), 2);
            x.put(0, 2, 9);
            due(nines(x, 0), 3);
            due(x.move(0, 0, 0, 0, 5), 5);
            due(nines(x, 0), 3);
        });
        promise(32, "BEYOND: no such PLATE", x -> {
            x.sheet(0, 8, 3);
            beyond(0, 3, v -> x.move(v, 0, 0, 0, 0));
            beyond(0, 3, v -> x.move(0, 0, v, 0, 0));
            beyond(0, 3, v -> x.move(1, 0, v, 0, 0));
            beyond(0, 3, v -> x.move(v, 0, 1, 0, 0));
        });
        promise(32, "NONE: one is missing", x -> {
            x.sheet(0, 8, 3);
            due(x.move(0, 0, 1, 0, 0), NONE);
            due(x.move(1, 0, 0, 0, 0), NONE);
            due(x.move(1, 0, 1, 0, 0), NONE);
            due(x.move(0, -1, 1, 0, -1), NONE);
        });
        promise(32, "KIND: they are of unlike bits", x -> {
            x.sheet(0, 8, 3);
            x.sheet(1, 16, 3);
            x.sheet(2, 32, 3);
            for (int from = 0; from < 3; from++) {
                for (int to = 0; to < 3; to++) {
                    due(x.move(from, 0, to, 0, 3), from == to ? 3 : KIND);
                }
            }
            due(x.move(0, 0, 1, 0, -1), KIND);
            due(x.move(0, 9, 1, 0, 0), KIND);
        });
        promise(32, "BEYOND: n, i, or j is below 0", x -> {
            x.sheet(0, 8, 3);
            x.sheet(1, 8, 3);
            for (int v : new int[] {-1, MIN}) {
                due(x.move(0, 0, 1, 0, v), BEYOND);
                due(x.move(0, v, 1, 0, 0), BEYOND);
                due(x.move(0, 0, 1, v, 0), BEYOND);
                due(x.move(0, v, 1, 0, 1), BEYOND);
                due(x.move(0, 0, 1, v, 1), BEYOND);
            }
        });
        promise(32, "or they don't stand there", x -> {
            x.sheet(0, 8, 5);
            x.sheet(1, 8, 3);
            due(x.move(0, 2, 1, 0, 3), 3);
            due(x.move(0, 3, 1, 0, 3), BEYOND);
            due(x.move(0, 0, 1, 1, 3), BEYOND);
            due(x.move(0, 0, 1, 0, 4), BEYOND);
            due(x.move(0, 4, 1, 2, 1), 1);
            due(x.move(0, 5, 1, 2, 1), BEYOND);
            due(x.move(0, 4, 1, 3, 1), BEYOND);
            due(x.move(0, MAX, 1, 0, 1), BEYOND);
            due(x.move(0, 0, 1, MAX, 1), BEYOND);
            due(x.move(0, 1, 1, 1, MAX), BEYOND);
            due(x.move(0, MAX, 1, MAX, MAX), BEYOND);
        });
        promise(32, "(n 0, too)", x -> {
            x.sheet(0, 8, 5);
            x.sheet(1, 8, 3);
            due(x.move(0, 5, 1, 3, 0), 0);
            due(x.move(0, 6, 1, 3, 0), BEYOND);
            due(x.move(0, 5, 1, 4, 0), BEYOND);
            due(x.move(0, MAX, 1, 0, 0), BEYOND);
            due(x.move(0, 0, 1, MAX, 0), BEYOND);
            x.sheet(2, 8, 0);
            due(x.move(2, 0, 2, 0, 0), 0);
            due(x.move(2, 1, 2, 0, 0), BEYOND);
        });
    }

    private static void casts() {
        promise(33, "Numbers of a PLATE, three by three, are CASTS: how many came", x -> {
            x.sheet(3, 16, 24);
            for (int i = 0; i < 8; i++) {
                x.put(3, 3 * i, 11 * i % 70);
                x.put(3, 3 * i + 1, 26 - i);
                x.put(3, 3 * i + 2, 10 * i);
            }
            due(x.casts(3), 8);
            for (int i = 0; i < 8; i++) {
                due(10 * x.letterIs(i, 0) + x.letterIs(i, 1), 11 * i % 70);
                due(x.letterIs(i, 2), 26 - i);
                due(x.letterIs(i, 3), 10 * i);
            }
        });
        promise(33, "up to the first that cast() would refuse: BEYOND", x -> {
            plate(x, 0, 16, 0, 1, 5, 70, 1, 5, 0, 1, 5);
            due(x.casts(0), 1);
            due(x.count(0), 1);
            plate(x, 0, 16, 0, 0, 5);
            due(x.casts(0), 0);
            plate(x, 0, 16, 0, 1, 1000);
            due(x.casts(0), 0);
        });
        promise(33, "up to the first that cast() would refuse: STATE", x -> {
            plate(x, 0, 16, 0, 1, 600, 0, 1, 401, 0, 1, 5);
            due(x.casts(0), 1);
            due(x.count(2), 400);
            x.put(0, 2, 0);
            x.put(0, 5, 400);
            due(x.casts(0), 2);
            due(x.count(2), 0);
        });
        promise(33, "up to the first that cast() would refuse: FULL", x -> {
            castSome(x, 23, 0);
            plate(x, 0, 16, 0, 1, 0, 0, 1, 0);
            due(x.casts(0), 1);
            due(x.casts(0), 0);
            due(x.count(0), 24);
        });
        promise(33, "or that isn't whole", x -> {
            int[] came = {0, 0, 0, 1, 1, 1, 2};
            for (int n = 0; n < came.length; n++) {
                x.sheet(0, 8, n);
                for (int i = 1; i < n; i += 3) {
                    x.put(0, i, 1);
                }
                due(x.casts(0), came[n]);
            }
            due(x.count(0), 5);
        });
        promise(33, "(no ERROR then)", x -> {
            plate(x, 0, 16, 0, 1, 1000, 0);
            x.casts(0);
            plate(x, 0, 16, 0, 1, 999, 0, 1, 999);
            x.casts(0);
            castSome(x, 23, 0);
            plate(x, 0, 16, 0, 1, 0);
            due(x.casts(0), 0);
            due(toldOfAll(x), 0);
        });
        promise(33, "(THIN ones may become SALTED, as by cast())", x -> {
            x.have(5, 500);
            plate(x, 0, 8, 14, 1, 10, 14, 1, 1);
            due(x.casts(0), 2);
            due(10 * x.letterIs(0, 0) + x.letterIs(0, 1), 35);
            due(10 * x.letterIs(1, 0) + x.letterIs(1, 1), 14);
            due(x.count(3), 495);
        });
        promise(33, "BEYOND", x -> {
            x.sheet(3, 8, 0);
            due(x.casts(3), 0);
            beyond(0, 3, x::casts);
        });
        promise(33, "NONE", x -> {
            for (int sheet = 0; sheet < 4; sheet++) {
                due(x.casts(sheet), NONE);
            }
        });
    }

    private static void judge() {
        promise(34, "SEEN of a PAGE ahead of its SHEETS 0, 1, .. from now on", x -> {
            x.cast(0, 1, 50);
            x.have(0, 0);
            x.lay(2, 0);
            plate(x, 0, 8, 5, 4, 4, 3, 3, 2, 2, 1, 1, 0, 0, 0);
            due(x.judge(0, 2), 12);
            x.press(2, 1);
            due(x.judge(0, 2), 0);
            x.put(0, 0, 4);
            due(x.judge(0, 2), 2);
        });
        promise(34, "the first that isn't so", x -> {
            plate(x, 0, 8, 9, 9, 9);
            due(x.judge(0, 0), 3);
            for (int i = 2; i >= 0; i--) {
                x.put(0, i, 8);
                due(x.judge(0, 0), i);
            }
            x.put(0, 0, 10);
            due(x.judge(0, 0), 0);
            x.put(0, 0, -9);
            due(x.judge(0, 0), 0);
        });
        promise(34, "as many as there are: none", x -> {
            x.sheet(0, 8, 0);
            due(x.judge(0, 0), 0);
            x.sheet(0, 8, 24);
            for (int i = 0; i < 24; i++) {
                x.put(0, i, 9);
            }
            due(x.judge(0, 0), 24);
        });
        promise(34, "(nothing is pressed)", x -> {
            x.cast(0, 1, 50);
            x.have(0, 0);
            x.lay(0, 0);
            plate(x, 0, 8, 5, 4, 4);
            due(x.judge(0, 0), 3);
            due(x.judge(0, 0), 3);
            due(x.letterIs(0, 3), 50);
            due(x.pageIs(0, 1), 0);
        });
        promise(34, "BEYOND: PLATE", x -> beyond(0, 3, v -> x.judge(v, 0)));
        promise(34, "BEYOND: PAGE (ahead of NONE)", x -> {
            beyond(0, 3, v -> x.judge(0, v));
            x.sheet(0, 8, 0);
            beyond(0, 3, v -> x.judge(0, v));
        });
        promise(34, "NONE", x -> {
            for (int sheet = 0; sheet < 4; sheet++) {
                due(x.judge(sheet, 0), NONE);
            }
        });
    }

    private static void image() {
        promise(35, "how often that was done", x -> {
            for (int i = 1; i <= 5; i++) {
                due(x.image(), i);
                x.restore();
            }
        });
        promise(35, "in place of one ahead", x -> {
            x.have(4, 11);
            x.image();
            x.have(4, 22);
            x.image();
            x.have(4, 33);
            due(x.restore(), 22);
        });
        promise(35, "(an IMAGE of an object without anything)", x -> {
            x.image();
            castSome(x, 24, 9);
            word(x, "a");
            text(x, 0, "1");
            x.tell(1);
            x.feed('1', 1);
            due(x.restore(), 1000);
            due(x.count(0) + x.count(1) + x.count(6) + x.count(7), 0);
            due(x.untell(0), 0);
            due(x.letterIs(0, 0), BEYOND);
        });
        promise(35, "but PLATES", x -> {
            plate(x, 0, 8, 9, 9);
            x.image();
            x.put(0, 1, 1);
            x.sheet(1, 8, 2);
            x.restore();
            due(nines(x, 0), 1);
            due(x.put(1, 1, 1), 1);
        });
        promise(35, "but THE TRACE", x -> {
            x.cast(1, 1, 0);
            x.image();
            x.voice(0, 2, 1);
            x.restore();
            due(x.count(8), 3);
            due(x.body(0), 12);
        });
        promise(35, "but what told() tells", x -> {
            x.image();
            x.told(0);
            x.restore();
            due(x.told(1), 1);
        });
        promise(35, "but how often this was done", x -> {
            x.image();
            x.image();
            x.restore();
            due(x.image(), 3);
        });
    }

    private static void restore() {
        promise(36, "All is as the IMAGE has it: LETTERS, PAGES", x -> {
            castSome(x, 2, 80);
            x.have(0, 0);
            x.lay(1, 1);
            x.press(1, 2);
            x.image();
            x.press(1, 5);
            x.sort(1);
            x.lay(0, 0);
            x.cast(0, 1, 5);
            x.set(0, 0, 5);
            x.set(0, 1, 5);
            x.set(0, 4, 2);
            x.drink(0);
            x.restore();
            due(x.count(0), 2);
            int[][] facts = {{0, 0, 1, 80, 0, -1, 0, 5, 8, 8}, {0, 0, 1, 70, 0, 1, 2, 5, 7, 7}};
            for (int i = 0; i < 20; i++) {
                due(x.letterIs(i / 10, i % 10), facts[i / 10][i % 10]);
            }
            due(x.pageIs(0, 0), 0);
            due(x.pageIs(1, 0), 1);
            due(x.pageIs(1, 1), 2);
            due(x.pageIs(1, 3), 1);
            due(x.count(4), 0);
        });
        promise(36, "All is as the IMAGE has it: WATER, SALT, MIST, COLD, z", x -> {
            x.have(5, 7);
            x.have(3, -1);
            x.seed(5);
            x.cast(0, 1, 30);
            x.drink(0);
            x.image();
            x.have(4, 1);
            x.have(5, 1);
            x.cast(0, 1, 1);
            x.drink(1);
            x.days(2);
            x.have(3, 9);
            due(x.restore(), 970);
            int[] counts = {1, 0, 970, 7, 30, 0, 0, 0, 0, 5, 5, 5, 5, -1};
            for (int what = 0; what < counts.length; what++) {
                due(x.count(what), counts[what]);
            }
        });
        promise(36, "All is as the IMAGE has it: TEXTS, WORDS, THE TAPE, numbers that wait", x -> {
            x.cast(60, 2, 40);
            x.lay(0, 0);
            text(x, 0, "6");
            text(x, 1, "5");
            word(x, "b");
            feed(x, "1+");
            x.tell(5);
            x.image();
            feed(x, "2");
            x.text(0);
            x.untell(1);
            word(x, "b");
            x.check(0);
            x.tell(6);
            x.tell(7);
            x.restore();
            due(x.letterIs(0, 7), 6);
            due(x.letterIs(0, 9), 5);
            due(x.said(0), 1);
            due(x.count(7), 1);
            due(x.check(0), 0);
            due(x.count(6), 2);
            due(x.text(0), -12);
        });
        promise(36, "All is as the IMAGE has it: as much as there may be", x -> {
            x.have(4, 99999);
            castSome(x, 24, 50);
            for (int i = 0; i < 24; i++) {
                x.lay(i / 8, 23 - i);
            }
            for (int i = 0; i < 8; i++) {
                word(x, "aaaaaaaa");
            }
            text(x, 0, "!0" + "+1".repeat(29));
            text(x, 1, "!0" + "+1".repeat(29));
            feed(x, "z".repeat(60));
            for (int i = 0; i < 24; i++) {
                x.tell(9);
            }
            x.image();
            x.check(0);
            x.decree();
            x.untell(0);
            x.untell(1);
            for (int page = 0; page < 3; page++) {
                x.sort(page);
            }
            x.drink(23);
            x.restore();
            due(x.count(0), 24);
            due(x.count(1), 8);
            due(x.count(5), 24 * 50);
            due(x.count(6), 60);
            due(x.count(7), 24);
            for (int page = 0; page < 3; page++) {
                due(x.pageIs(page, 3), 23 - 8 * page);
                due(x.pageIs(page, 10), 16 - 8 * page);
                due(x.said(page), 255);
            }
            due(x.letterIs(23, 9), 9);
            due(x.check(0), 9);
            due(x.untell(0) + x.untell(1), 2);
            due(x.word(), FULL);
            due(x.decree(), 0);
        });
        promise(36, "which stays", x -> {
            x.image();
            for (int i = 0; i < 3; i++) {
                x.have(4, i);
                x.cast(0, 1, 0);
                due(x.restore(), 1000);
                due(x.count(0), 0);
            }
        });
        promise(36, "NONE: there is none", x -> {
            x.have(4, 5);
            due(x.restore(), NONE);
            due(x.count(2), 5);
        });
    }

    private static void tell() {
        promise(37, "One more number waits: how many", x -> {
            for (int i = 1; i <= 24; i++) {
                due(x.tell(i % 2 == 0 ? MIN : MAX), i);
            }
        });
        promise(37, "FULL: 24 wait", x -> {
            for (int i = 0; i < 24; i++) {
                x.tell(9);
            }
            due(x.tell(9), FULL);
            due(x.count(7), 24);
            x.check(0);
            due(x.tell(9), 1);
        });
    }

    private static void check() {
        promise(38, "The numbers that wait are what SEES gives: 0", x -> {
            due(x.check(0), 0);
            castSome(x, 8, 40);
            text(x, 1, "r+s");
            x.press(0, 2);
            for (int i = 0; i < 8; i++) {
                x.lay(0, i);
                x.tell(6);
            }
            due(x.check(0), 0);
        });
        promise(38, "(none do then)", x -> {
            x.tell(1);
            x.check(0);
            due(x.count(7), 0);
            due(x.check(0), 0);
        });
        promise(38, "else 1 and the place of the first that isn't so", x -> {
            castSome(x, 8, 40);
            for (int i = 0; i < 8; i++) {
                x.lay(0, i);
            }
            for (int place = 0; place < 8; place++) {
                for (int i = 0; i < 8; i++) {
                    x.tell(i < place ? 4 : 5);
                }
                due(x.check(0), 1 + place);
            }
        });
        promise(38, "(one that lacks)", x -> {
            castSome(x, 8, 40);
            for (int i = 0; i < 8; i++) {
                x.lay(0, i);
            }
            for (int told = 0; told < 8; told++) {
                for (int i = 0; i < told; i++) {
                    x.tell(4);
                }
                due(x.check(0), 1 + told);
            }
        });
        promise(38, "(one that lacks where SEES gives 0)", x -> {
            castSome(x, 2, 0);
            x.lay(0, 0);
            x.lay(0, 1);
            due(x.check(0), 1);
            x.tell(0);
            due(x.check(0), 2);
            x.tell(0);
            x.tell(0);
            due(x.check(0), 0);
            x.tell(0);
            x.tell(0);
            x.tell(0);
            due(x.check(0), 3);
        });
        promise(38, "(or is too many, too)", x -> {
            x.tell(9);
            due(x.check(0), 1);
            castSome(x, 8, 40);
            for (int i = 0; i < 8; i++) {
                x.lay(0, i);
            }
            for (int i = 0; i < 24; i++) {
                x.tell(4);
            }
            due(x.check(0), 9);
        });
        promise(38, "BEYOND (none wait then, too)", x -> {
            for (int page : new int[] {-1, 4, MIN, MAX}) {
                x.tell(9);
                x.tell(9);
                due(x.check(page), BEYOND);
                due(x.count(7), 0);
            }
            due(x.check(0), 0);
        });
    }

    private static void count() {
        promise(39, "0 LETTERS .. 13 COLD of ROOM 3", x -> {
            castSome(x, 2, 50);
            x.lay(0, 0);
            x.have(5, 8);
            x.have(3, -3);
            x.drink(1);
            word(x, "a");
            feed(x, "abc");
            x.tell(1);
            x.voice(0, 1, 1);
            int[] counts = {2, 1, 900, 8, 50, 50, 3, 1, 2, 1, 5, 5, 5, -3};
            for (int what = 0; what < counts.length; what++) {
                due(x.count(what), counts[what]);
            }
        });
        promise(39, "(as much as there may be)", x -> {
            x.have(4, 99999);
            castSome(x, 24, 999);
            x.have(5, 9999);
            due(x.count(0), 24);
            due(x.count(5), 24 * 999);
            due(x.count(2), 99999 - 24 * 999);
            due(x.count(3), 9999);
            for (int i = 0; i < 24; i++) {
                x.drink(i);
            }
            due(x.count(4), 24 * 999);
            due(x.count(5), 0);
        });
        promise(39, "9 z (any number)", x -> {
            for (int z : new int[] {MIN, MAX, 0, -1, BEYOND, PARTED}) {
                x.seed(z);
                due(x.count(9), z);
            }
            due(toldOfAll(x), 0);
        });
        promise(39, "BEYOND", x -> beyond(0, 13, x::count));
    }

    private static void told() {
        promise(40, "How many acts have answered an ERROR LOW - k (k 1 .. 6)", x -> {
            for (int k = 1; k <= 6; k++) {
                due(x.told(k), 0);
            }
            castSome(x, 1, 0);
            x.letterIs(1, 0);
            x.body(0);
            x.body(0);
            for (int i = 0; i < 3; i++) {
                x.lost(0);
            }
            for (int i = 0; i < 28; i++) {
                x.tell(i);
            }
            for (int i = 0; i < 5; i++) {
                x.as(0, 1);
            }
            for (int i = 0; i < 6; i++) {
                x.voice(0, 3, i);
            }
            for (int k = 1; k <= 6; k++) {
                due(x.told(k), k);
            }
        });
        promise(40, "BEYOND: another k", x -> beyond(1, 6, x::told));
        promise(40, "(counted, too)", x -> {
            x.told(0);
            due(x.told(1), 1);
            x.told(7);
            due(x.told(1), 2);
            due(x.told(1), 2);
        });
    }

    public static void main(String[] args) {
        voice();
        body();
        sheet();
        put();
        move();
        casts();
        judge();
        image();
        restore();
        tell();
        check();
        count();
        told();
        end(28, 40);
    }
}
