import java.util.ArrayList;
import java.util.List;
import java.util.function.Consumer;
import java.util.function.ToIntFunction;

/**
 * 'One that answers an ERROR changes nothing but what told() tells, or where told': for each ERROR of each promise
 * two objects go through the same calls, one of them through the refused call, too; then all looks at them are alike.
 */
public final class BoundaryRefusalsTests extends Sentences {
    /** So many ways to look at what only shows when it is used up: each needs an object of its own. */
    private static final int LAST_LOOKS = 6;

    /** Something of everything, so that a refused call has much that it could change. */
    private static void busy(IceType x) {
        x.have(1, 2);
        x.have(2, -4);
        x.have(5, 40);
        for (int kind = 0; kind < 7; kind++) {
            x.cast(11 * kind, 1 + kind, 60 + kind);
            x.set(kind, 4, kind % 4);
            x.set(kind, 6, 3 * kind);
        }
        x.lay(0, 0);
        x.lay(0, 1);
        x.lay(1, 6);
        x.lay(2, 4);
        text(x, 0, "i/9+c");
        text(x, 1, "r-s/3");
        word(x, "ab");
        word(x, "g");
        x.press(0, 2);
        x.image();
        x.days(1);
        x.press(1, 3);
        x.voice(3, 2, 5);
        plate(x, 0, 8, 9, 9, 0, 1, 5);
        plate(x, 1, 16, 6, 0, 1, 20);
        feed(x, "2*4");
        x.tell(6);
        x.tell(5);
        x.tell(1);
    }

    private static List<Integer> look(IceType x, int last) {
        List<Integer> seen = new ArrayList<>();
        for (int what = 0; what < 14; what++) {
            seen.add(x.count(what));
        }
        lookAtLetters(x, seen, 0, 1, 2, 3, 4, 5, 6, 7, 8, 9);
        for (int page = 0; page < 4; page++) {
            for (int what = 0; what <= 10; what++) {
                seen.add(x.pageIs(page, what));
            }
            seen.add(x.said(page));
            for (int sheet = 0; sheet < 4; sheet++) {
                seen.add(x.judge(sheet, page));
            }
        }
        for (int i = 0; i < 7; i++) {
            seen.add(x.body(i));
        }
        lookAtLast(x, last, seen);
        return seen;
    }

    private static void lookAtLetters(IceType x, List<Integer> seen, int... whats) {
        int letters = x.count(0);
        for (int letter = 0; letter < letters; letter++) {
            for (int what : whats) {
                seen.add(x.letterIs(letter, what));
            }
        }
    }

    private static void lookAtLast(IceType x, int last, List<Integer> seen) {
        switch (last) {
            case 0:
                seen.add(x.check(0));
                seen.add(x.untell(0));
                seen.add(x.untell(1));
                break;
            case 1:
                seen.add(x.decree());
                seen.add(x.casts(0));
                seen.add(x.casts(1));
                seen.add(x.casts(2));
                break;
            case 2:
                seen.add(x.text(0));
                lookAtLetters(x, seen, 7);
                break;
            case 3:
                seen.add(x.text(1));
                lookAtLetters(x, seen, 9);
                break;
            case 4:
                seen.add(x.restore());
                seen.add(x.image());
                lookAtLetters(x, seen, 3, 5);
                break;
            default:
                seen.add(x.move(0, 0, 1, 0, 0));
                seen.add(x.move(1, 0, 2, 0, 0));
                seen.add(x.put(0, 4, 1));
                seen.add(x.put(0, 5, 1));
                seen.add(x.put(1, 3, 1));
                seen.add(x.put(1, 4, 1));
                break;
        }
    }

    private static void refused(int number, String which, int error, Consumer<IceType> ahead,
            ToIntFunction<IceType> call) {
        promise(number, which + " changes nothing but what told() tells", x -> {
            int k = -1000000000 - error;
            ahead.accept(x);
            int[] told = new int[7];
            for (int i = 1; i <= 6; i++) {
                told[i] = x.told(i);
            }
            due(call.applyAsInt(x), error);
            for (int i = 1; i <= 6; i++) {
                due(x.told(i), told[i] + (i == k ? 1 : 0));
            }
            for (int last = 0; last < LAST_LOOKS; last++) {
                IceType with = new IceType();
                IceType without = new IceType();
                ahead.accept(with);
                ahead.accept(without);
                call.applyAsInt(with);
                List<Integer> one = look(with, last);
                List<Integer> other = look(without, last);
                due(one.size(), other.size());
                due(one.equals(other) ? 1 : 0, 1);
            }
        });
    }

    private static void refused(int number, String which, int error, ToIntFunction<IceType> call) {
        refused(number, which, error, BoundaryRefusalsTests::busy, call);
    }

    private static void filledWithLetters(IceType x) {
        busy(x);
        castSome(x, 17, 1);
    }

    private static void withoutWater(IceType x) {
        busy(x);
        x.have(4, 4);
    }

    private static void filledTape(IceType x) {
        busy(x);
        feed(x, "+1".repeat(26));
    }

    private static void filledWords(IceType x) {
        busy(x);
        x.decree();
        for (int i = 0; i < 6; i++) {
            word(x, "ab");
        }
        feed(x, "7-a");
    }

    private static void filledPage(IceType x) {
        busy(x);
        castSome(x, 7, 1);
        for (int i = 0; i < 6; i++) {
            x.lay(0, 7 + i);
        }
    }

    private static void allSheets(IceType x) {
        x.cast(50, 1, 99);
        x.have(0, 4);
        x.lay(3, 0);
        for (int i = 0; i < 101; i++) {
            x.press(3, 99);
        }
    }

    /** Letter 6 keeps for ever. */
    private static void neverLost(IceType x) {
        busy(x);
        x.untell(1);
        x.set(6, 0, 0);
        x.set(6, 1, 0);
        x.set(6, 4, 3);
        x.have(3, 20);
    }

    private static void alwaysLost(IceType x) {
        busy(x);
        x.decree();
        text(x, 1, "2");
        feed(x, "2*4");
    }

    /** Letter 3 has m 3, so its casts part; the trace is that of the same call already. */
    private static void parted(IceType x) {
        busy(x);
        x.set(3, 1, 3);
        x.voice(3, 3, 1);
    }

    private static void withoutImage(IceType x) {
        castSome(x, 3, 40);
        x.lay(0, 0);
        x.tell(4);
        feed(x, "3");
    }

    private static void filledWaiting(IceType x) {
        busy(x);
        for (int i = 0; i < 21; i++) {
            x.tell(4);
        }
    }

    private static void letters() {
        refused(2, "BEYOND of km", BEYOND, x -> x.cast(70, 1, 5));
        refused(2, "BEYOND of GLYPH", BEYOND, x -> x.cast(14, 27, 5));
        refused(2, "BEYOND of ICE", BEYOND, x -> x.cast(14, 1, 1000));
        refused(2, "STATE", STATE, BoundaryRefusalsTests::withoutWater, x -> x.cast(14, 1, 5));
        refused(2, "FULL", FULL, BoundaryRefusalsTests::filledWithLetters, x -> x.cast(14, 1, 5));
        refused(3, "BEYOND of LETTER", BEYOND, x -> x.letterIs(7, 0));
        refused(3, "BEYOND of what", BEYOND, x -> x.letterIs(0, 10));
        refused(4, "BEYOND of LETTER", BEYOND, x -> x.as(7, 0));
        refused(4, "BEYOND of KIND", BEYOND, x -> x.as(0, 7));
        refused(4, "KIND", KIND, x -> x.as(0, 3));
        refused(5, "BEYOND of LETTER", BEYOND, x -> x.set(7, 0, 1));
        refused(5, "BEYOND of what", BEYOND, x -> x.set(0, 3, 1));
        refused(5, "BEYOND of KIND", BEYOND, x -> x.set(0, 0, 7));
        refused(5, "BEYOND of m", BEYOND, x -> x.set(0, 1, 10));
        refused(5, "BEYOND of ROOM", BEYOND, x -> x.set(0, 4, 4));
        refused(5, "BEYOND of AGE", BEYOND, x -> x.set(0, 6, 100));
        refused(6, "BEYOND", BEYOND, x -> x.melt(7));
        refused(6, "STATE", STATE, x -> x.melt(0));
        refused(7, "BEYOND", BEYOND, x -> x.drink(7));
        refused(8, "BEYOND of what", BEYOND, x -> x.have(6, 1));
        refused(8, "BEYOND of COLD", BEYOND, x -> x.have(3, 21));
        refused(8, "BEYOND of WATER", BEYOND, x -> x.have(4, 100000));
        refused(8, "BEYOND of SALT", BEYOND, x -> x.have(5, 10000));
    }

    private static void textsAndPages() {
        refused(9, "BEYOND", BEYOND, x -> x.feed('+', 9));
        refused(9, "FULL", FULL, BoundaryRefusalsTests::filledTape, x -> x.feed(0x3131313131313131L, 6));
        refused(10, "BEYOND (THE TAPE stays)", BEYOND, x -> x.text(2));
        refused(11, "BEYOND", BEYOND, x -> x.untell(2));
        refused(12, "FULL (THE TAPE stays)", FULL, BoundaryRefusalsTests::filledWords, x -> x.word());
        refused(14, "BEYOND of PAGE", BEYOND, x -> x.lay(4, 2));
        refused(14, "BEYOND of LETTER", BEYOND, x -> x.lay(0, 7));
        refused(14, "STATE", STATE, x -> x.lay(1, 0));
        refused(14, "FULL", FULL, BoundaryRefusalsTests::filledPage, x -> x.lay(0, 13));
        refused(15, "BEYOND", BEYOND, x -> x.sort(4));
        refused(16, "BEYOND of PAGE", BEYOND, x -> x.pageIs(4, 0));
        refused(16, "BEYOND of what", BEYOND, x -> x.pageIs(0, 11));
        refused(17, "BEYOND of PAGE", BEYOND, x -> x.press(4, 1));
        refused(17, "BEYOND of n", BEYOND, x -> x.press(0, 100));
        refused(17, "STATE", STATE, BoundaryRefusalsTests::allSheets, x -> x.press(3, 1));
    }

    private static void ahead() {
        refused(18, "BEYOND of PAGE", BEYOND, x -> x.run(4, 1));
        refused(18, "BEYOND of n", BEYOND, x -> x.run(0, 100));
        refused(19, "BEYOND", BEYOND, x -> x.lost(7));
        refused(19, "STATE", STATE, x -> x.lost(2));
        refused(19, "NONE", NONE, BoundaryRefusalsTests::neverLost, x -> x.lost(6));
        refused(20, "BEYOND of LETTER", BEYOND, x -> x.then(7, 0, 0));
        refused(20, "BEYOND of n", BEYOND, x -> x.then(0, 100, 0));
        refused(20, "BEYOND of what", BEYOND, x -> x.then(0, 0, 10));
        refused(20, "STATE", STATE, x -> x.then(2, 9, 3));
        refused(21, "BEYOND of n", BEYOND, x -> x.order(21, 0));
        refused(21, "BEYOND of i", BEYOND, x -> x.order(5, -2));
        refused(21, "NONE", NONE, x -> x.order(5, 3));
        refused(22, "BEYOND of PAGE", BEYOND, x -> x.room(4, 1));
        refused(22, "BEYOND of n", BEYOND, x -> x.room(0, 100));
        refused(23, "BEYOND of LETTER", BEYOND, x -> x.needs(7, 1));
        refused(23, "BEYOND of n", BEYOND, x -> x.needs(0, 31));
        refused(23, "STATE", STATE, x -> x.needs(2, 1));
        refused(23, "NONE", NONE, BoundaryRefusalsTests::alwaysLost, x -> x.needs(0, 30));
        refused(24, "BEYOND", BEYOND, x -> x.said(4));
        refused(25, "BEYOND", BEYOND, x -> x.inCase(27));
        refused(26, "BEYOND", BEYOND, x -> x.days(21));
    }

    private static void voicesAndPlates() {
        refused(28, "BEYOND of LETTER", BEYOND, x -> x.voice(7, 0, 1));
        refused(28, "BEYOND of VOICE", BEYOND, x -> x.voice(0, 4, 1));
        refused(28, "PARTED (but for THE TRACE)", PARTED, BoundaryRefusalsTests::parted, x -> x.voice(3, 3, 1));
        refused(29, "NONE", NONE, x -> x.body(9));
        refused(30, "BEYOND of PLATE", BEYOND, x -> x.sheet(4, 8, 1));
        refused(30, "BEYOND of bits", BEYOND, x -> x.sheet(0, 9, 1));
        refused(30, "STATE", STATE, x -> x.sheet(0, 16, -1));
        refused(30, "BEYOND of n", BEYOND, x -> x.sheet(0, 16, 25));
        refused(31, "BEYOND of PLATE", BEYOND, x -> x.put(4, 0, 1));
        refused(31, "NONE", NONE, x -> x.put(2, 0, 1));
        refused(31, "BEYOND of a number", BEYOND, x -> x.put(0, 5, 1));
        refused(32, "BEYOND of PLATE", BEYOND, x -> x.move(0, 2, 4, 0, 1));
        refused(32, "NONE", NONE, x -> x.move(0, 2, 2, 0, 1));
        refused(32, "KIND", KIND, x -> x.move(0, 2, 1, 0, 1));
        refused(32, "BEYOND of numbers", BEYOND, x -> x.move(0, 2, 0, 0, 4));
        refused(33, "BEYOND", BEYOND, x -> x.casts(4));
        refused(33, "NONE", NONE, x -> x.casts(2));
        refused(34, "BEYOND of PLATE", BEYOND, x -> x.judge(4, 0));
        refused(34, "BEYOND of PAGE", BEYOND, x -> x.judge(0, 4));
        refused(34, "NONE", NONE, x -> x.judge(2, 0));
        refused(36, "NONE", NONE, BoundaryRefusalsTests::withoutImage, x -> x.restore());
        refused(37, "FULL", FULL, BoundaryRefusalsTests::filledWaiting, x -> x.tell(6));
        refused(39, "BEYOND", BEYOND, x -> x.count(14));
        refused(40, "BEYOND", BEYOND, x -> x.told(7));
    }

    /** Where the document tells of a change, all else stays. */
    private static void told() {
        refused(38, "BEYOND, where none wait, ", BEYOND, x -> {
            busy(x);
            x.check(0);
        }, x -> x.check(4));
        promise(28, "PARTED changes THE TRACE, and so do no other ERRORS", x -> {
            busy(x);
            x.set(3, 1, 3);
            due(x.count(8), 6);
            due(x.voice(3, 3, 1), PARTED);
            due(x.count(8), 2);
        });
        promise(38, "BEYOND empties what waits", x -> {
            busy(x);
            due(x.count(7), 3);
            due(x.check(4), BEYOND);
            due(x.count(7), 0);
        });
    }

    public static void main(String[] args) {
        letters();
        textsAndPages();
        ahead();
        voicesAndPlates();
        told();
        // These name no ERROR.
        end(2, 40, 13, 27, 35);
    }
}
