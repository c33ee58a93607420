import java.lang.reflect.InvocationTargetException;
import java.lang.reflect.Method;
import java.lang.reflect.Modifier;
import java.util.ArrayList;
import java.util.Arrays;
import java.util.List;
import java.util.function.ToIntFunction;

/**
 * "Refused, and nothing changes": of two objects made alike one is refused a call; all that can be asked
 * is then asked of both. And no call throws, whatever its numbers.
 */
public final class RefusedEdgesTest {
    private static final int UNKNOWN = Edges.UNKNOWN, OUTSIDE = Edges.OUTSIDE, NOT = Edges.NOT, FULL = Edges.FULL;
    /** What the texts that are written in the objects do, so that a changed byte would be seen. */
    private static final String NEXT_TEXT = "tidy;deed 1 7 7;behind 2 22;way 1 33;shop 1 1 2 3 44";

    private RefusedEdgesTest() {
    }

    public static void main(String[] args) {
        Edges.run(RefusedEdgesTest.class, 2, 2);
    }

    private interface Maker {
        MinuteBehind make();
    }

    private static void due(int got, int want) {
        Edges.due(got, want);
    }

    private static MinuteBehind atFirst() {
        return new MinuteBehind();
    }

    /** Some of all there is, and room for more. */
    private static MinuteBehind some() {
        MinuteBehind x = Edges.told("street 5;behind 1 30;behind 4 700;way 0 5;way 2 9;wall 0 4 6;deed 0 100 5;"
            + "deed 4 0 9;shop 0 100 900 10 12;shop 4 0 700 5 60");
        x.go(3);
        x.keep(0);
        x.await(1500);
        for (int h : new int[] {0, 4, 4, 1}) {
            x.walk(h);
        }
        x.bell(0, 10, 1, 1420);
        x.bell(1, 0, 4, 0);
        x.seen(2, 0, 100);
        x.seen(2, 1, 70);
        x.seen(3, 1, 7);
        Edges.write(x, NEXT_TEXT);
        return x;
    }

    /** As many of all as there can be; the true time is the last one. */
    private static MinuteBehind full() {
        MinuteBehind x = Edges.told("street 10;behind 3 500;behind 9 999" + ";wall 0 9 60;wall 2 8 3".repeat(3),
            "wall 1 4 2;wall 5 7 1;shop 2 50 99 1 9;shop 9 7 800 2 30" + ";shop 5 600 700 40 50".repeat(4),
            "deed 1 50 10;deed 4 30 20;deed 8 1000 5;deed 2 60 0" + ";deed 0 0 9;deed 9 1439 9".repeat(3));
        x.go(8);
        x.keep(1);
        for (int i = 0; i < 12; i++) {
            x.walk(i * 7 % 10);
            x.bell(i % 9, 100 + i, i % 9 + 1, 99 + i);
            x.seen(i % 5, i % 2, i / 5);
        }
        Edges.awaitTill(x, 99999);
        Edges.write(x, NEXT_TEXT + " ".repeat(200 - NEXT_TEXT.length()));
        return x;
    }

    /** All that can be asked, and then what the written text makes of it. */
    private static List<Integer> answers(MinuteBehind x) {
        List<Integer> all = new ArrayList<>();
        askOfHouses(x, all);
        askOfDeeds(x, all);
        askOfTheRest(x, all);
        all.add(x.fault());
        for (int k = 0; k < 2; k++) {
            all.add(x.back(k));
            all.add(x.here(0));
        }
        all.add(x.street());
        askOfHouses(x, all);
        all.add(x.deed(0, 3));
        all.add(x.trade(0, 0, 0));
        return all;
    }

    private static void askOfHouses(MinuteBehind x, List<Integer> all) {
        for (int what = 0; what < 8; what++) {
            all.add(x.count(what));
        }
        for (int h = 0; h < 10; h++) {
            all.add(x.off(h));
            all.add(x.far(h, 9 - h));
            all.add(x.far(h, h + 1));
        }
        for (int what = 0; what < 4; what++) {
            all.add(x.here(what));
        }
        all.add(x.gaining(0));
    }

    private static void askOfDeeds(MinuteBehind x, List<Integer> all) {
        for (int d = 0; d < 10; d++) {
            for (int what = 0; what < 3; what++) {
                all.add(x.deed(d, what));
            }
            all.add(x.order(d));
        }
        all.add(x.most(-1, -1));
        all.add(x.hang(0));
        all.add(x.hang(1));
        for (int what = 0; what < 4; what++) {
            all.add(x.trade(0, 0, what));
            all.add(x.trade(1, 700, what));
        }
    }

    private static void askOfTheRest(MinuteBehind x, List<Integer> all) {
        for (int what = 0; what < 3; what++) {
            all.add(x.walked(0, what));
            all.add(x.walked(1300, what));
        }
        all.add(x.wrong(0));
        all.add(x.wrong(1));
        all.add(x.liars());
        for (int h = 0; h < 10; h++) {
            all.add(x.canBe(h, 60 * h));
        }
    }

    private static void refused(Maker maker, ToIntFunction<MinuteBehind> call, int want) {
        MinuteBehind called = maker.make();
        due(call.applyAsInt(called), want);
        List<Integer> due = answers(maker.make());
        List<Integer> got = answers(called);
        if (!got.equals(due)) {
            Edges.fail("changed something: " + got + ", due is " + due);
        }
    }

    private static void refusedByAll(ToIntFunction<MinuteBehind> call, int want) {
        refused(RefusedEdgesTest::atFirst, call, want);
        refused(RefusedEdgesTest::some, call, want);
        refused(RefusedEdgesTest::full, call, want);
    }

    /** The checks above would see nothing if the objects were empty, or used beyond their calls. */
    static void terms1_theObjectsAreAsFullAsTheyShouldBe() {
        int[] most = {10, 8, 10, 6, 12, 10, 12, 200};
        int[] fewer = {5, 1, 2, 2, 4, 2, 3, NEXT_TEXT.length()};
        MinuteBehind full = full(), some = some();
        for (int what = 0; what < 8; what++) {
            due(full.count(what), most[what]);
            due(some.count(what), fewer[what]);
        }
        due(full.here(1), 99999);
        due(full.fault(), Edges.NONE);
        due(some.fault(), Edges.NONE);
        due(full.liars() == 0 ? 0 : 1, 1);
        due(some.liars() == 0 ? 0 : 1, 1);
        due(full.wrong(0) == 0 ? 0 : 1, 1);
        due(some.wrong(0) == 0 ? 0 : 1, 1);
        due(full.trade(0, 0, 0) > 0 ? 1 : 0, 1);
        due(some.trade(0, 0, 0) > 0 ? 1 : 0, 1);
        due(answers(some()).size() + 120 < Edges.CALLS_AT_MOST ? 1 : 0, 1);
    }

    // ---- each promise that refuses

    static void promise02_write() {
        refusedByAll(x -> x.write(-1L, 0), OUTSIDE);
        refusedByAll(x -> x.write(-1L, 9), OUTSIDE);
        refused(RefusedEdgesTest::full, x -> x.write(-1L, 1), FULL);
        refused(RefusedEdgesTest::full, x -> x.write(-1L, 8), FULL);
    }

    static void promise05_street() {
        refused(RefusedEdgesTest::atFirst, x -> x.street(), NOT);
        Maker faulty = () -> {
            MinuteBehind x = some();
            Edges.write(x, ";street 9;deed 8 0 0;x");
            return x;
        };
        refused(faulty, x -> x.street(), NOT);
        Maker fullAndFaulty = () -> {
            MinuteBehind x = full();
            x.erase();
            Edges.write(x, "wall 0 1 5");
            return x;
        };
        refused(fullAndFaulty, x -> x.street(), NOT);
    }

    static void promise06_off() {
        refusedByAll(x -> x.off(10), UNKNOWN);
        refusedByAll(x -> x.off(-1), UNKNOWN);
    }

    static void promise07_far() {
        refusedByAll(x -> x.far(10, 0), UNKNOWN);
        refusedByAll(x -> x.far(0, -1), UNKNOWN);
    }

    static void promise08_shows() {
        refusedByAll(x -> x.shows(10, 0, 0), UNKNOWN);
        refusedByAll(x -> x.shows(0, 100000, 0), OUTSIDE);
        refusedByAll(x -> x.shows(0, 0, 2), OUTSIDE);
    }

    static void promise09_byClocks() {
        refusedByAll(x -> x.byClocks(0, 10), UNKNOWN);
        refusedByAll(x -> x.byClocks(-1, 0), UNKNOWN);
    }

    static void promise10_gaining() {
        refusedByAll(x -> x.gaining(2), OUTSIDE);
    }

    static void promise11_deed() {
        refusedByAll(x -> x.deed(10, 0), UNKNOWN);
        refused(RefusedEdgesTest::full, x -> x.deed(9, 4), OUTSIDE);
    }

    static void promise12_go() {
        refusedByAll(x -> x.go(10), UNKNOWN);
        refusedByAll(x -> x.go(-1), UNKNOWN);
        refusedByAll(x -> x.go(x.here(0)), NOT);
        refused(RefusedEdgesTest::full, x -> x.go(0), FULL);
    }

    static void promise13_await() {
        refusedByAll(x -> x.await(0), OUTSIDE);
        refusedByAll(x -> x.await(10000), OUTSIDE);
        refused(RefusedEdgesTest::full, x -> x.await(1), FULL);
    }

    static void promise14_here() {
        refusedByAll(x -> x.here(4), OUTSIDE);
        refusedByAll(x -> x.here(-1), OUTSIDE);
    }

    static void promise15_keep() {
        refusedByAll(x -> x.keep(2), UNKNOWN);
        refusedByAll(x -> x.keep(-1), UNKNOWN);
    }

    static void promise16_back() {
        refusedByAll(x -> x.back(2), UNKNOWN);
        refusedByAll(x -> x.back(-1), UNKNOWN);
        refused(RefusedEdgesTest::some, x -> x.back(1), NOT);
        refused(RefusedEdgesTest::full, x -> x.back(0), NOT);
    }

    static void promise17_order() {
        refusedByAll(x -> x.order(-1), OUTSIDE);
    }

    static void promise18_behind() {
        refusedByAll(x -> x.behind(10, 0), UNKNOWN);
        refusedByAll(x -> x.behind(0, -1), UNKNOWN);
    }

    static void promise19_most() {
        refusedByAll(x -> x.most(10, 0), UNKNOWN);
        refusedByAll(x -> x.most(-1, -2), OUTSIDE);
    }

    static void promise20_walk() {
        refusedByAll(x -> x.walk(10), UNKNOWN);
        refusedByAll(x -> x.walk(-1), UNKNOWN);
        refused(RefusedEdgesTest::full, x -> x.walk(9), FULL);
    }

    static void promise22_walked() {
        refusedByAll(x -> x.walked(-1, 0), OUTSIDE);
        refusedByAll(x -> x.walked(0, 3), OUTSIDE);
        refused(RefusedEdgesTest::atFirst, x -> x.walked(0, 0), NOT);
    }

    static void promise23_trade() {
        refusedByAll(x -> x.trade(10, 0, 0), UNKNOWN);
        refusedByAll(x -> x.trade(0, 10000, 0), OUTSIDE);
        refusedByAll(x -> x.trade(0, 0, 4), OUTSIDE);
    }

    static void promise24_bell() {
        refusedByAll(x -> x.bell(10, 0, 1, 0), UNKNOWN);
        refusedByAll(x -> x.bell(0, 0, -1, 0), UNKNOWN);
        refusedByAll(x -> x.bell(0, 1440, 1, 0), OUTSIDE);
        refusedByAll(x -> x.bell(0, 0, 1, -1), OUTSIDE);
        refusedByAll(x -> x.bell(1, 0, 1, 0), OUTSIDE);
        refused(RefusedEdgesTest::full, x -> x.bell(0, 0, 1, 0), FULL);
    }

    static void promise26_wrong() {
        refusedByAll(x -> x.wrong(2), OUTSIDE);
        refusedByAll(x -> x.wrong(-1), OUTSIDE);
    }

    static void promise27_seen() {
        refusedByAll(x -> x.seen(6, 0, 0), UNKNOWN);
        refusedByAll(x -> x.seen(0, 10, 0), UNKNOWN);
        refusedByAll(x -> x.seen(0, 0, 1440), OUTSIDE);
        refused(RefusedEdgesTest::full, x -> x.seen(5, 0, 0), FULL);
    }

    static void promise30_canBe() {
        refusedByAll(x -> x.canBe(10, 0), UNKNOWN);
        refusedByAll(x -> x.canBe(0, 1440), OUTSIDE);
    }

    static void promise31_hang() {
        refusedByAll(x -> x.hang(2), OUTSIDE);
        refused(RefusedEdgesTest::atFirst, x -> x.hang(0), NOT);
    }

    static void promise32_ring() {
        refusedByAll(x -> x.ring(0), OUTSIDE);
        refusedByAll(x -> x.ring(10000), OUTSIDE);
    }

    static void promise33_count() {
        refusedByAll(x -> x.count(8), OUTSIDE);
        refusedByAll(x -> x.count(-1), OUTSIDE);
    }

    // ---- what only asks changes nothing either

    static void terms2_askingChangesNothing() {
        List<ToIntFunction<MinuteBehind>> asking = List.of(x -> x.fault(), x -> x.off(1), x -> x.far(0, 1),
            x -> x.shows(1, 99999, 0), x -> x.byClocks(0, 1), x -> x.gaining(1), x -> x.order(0), x -> x.most(-1, 0),
            x -> x.trade(1, 9999, 3), x -> x.wrong(1), x -> x.liars(), x -> x.canBe(1, 0), x -> x.ring(9999));
        for (ToIntFunction<MinuteBehind> call : asking) {
            refused(RefusedEdgesTest::some, call, call.applyAsInt(some()));
            refused(RefusedEdgesTest::full, call, call.applyAsInt(full()));
        }
    }

    // ---- whatever the numbers are

    private static final int[] NUMBERS = {Integer.MIN_VALUE, Integer.MIN_VALUE + 1, -100000, -1441, -1440, -6, -5, -4, -3,
        -2, -1, 0, 1, 2, 5, 6, 9, 10, 12, 99, 100, 999, 1000, 1439, 1440, 9999, 10000, 99999, 100000,
        Integer.MAX_VALUE - 1, Integer.MAX_VALUE};

    private static Object[] numbersFor(Method method, int seed) {
        Object[] numbers = new Object[method.getParameterCount()];
        for (int i = 0; i < numbers.length; i++) {
            int number = NUMBERS[Math.floorMod(seed / (int) Math.pow(NUMBERS.length, i), NUMBERS.length)];
            numbers[i] = method.getParameterTypes()[i] == long.class ? (Object) (number * 72340172838076673L)
                : (Object) number;
        }
        return numbers;
    }

    static void terms3_noCallThrowsWhateverItsNumbers() {
        for (Method method : MinuteBehind.class.getDeclaredMethods()) {
            if (!Modifier.isPublic(method.getModifiers())) {
                continue;
            }
            int all = (int) Math.pow(NUMBERS.length, method.getParameterCount());
            int step = all / 40000 + 1;
            MinuteBehind x = full(), y = some(), z = atFirst();
            for (int seed = 0; seed < all; seed += step) {
                if (seed / step % 300 == 299) {
                    x = full();
                    y = some();
                    z = atFirst();
                }
                answers(method, x, seed);
                answers(method, y, seed);
                answers(method, z, seed);
            }
        }
    }

    private static void answers(Method method, MinuteBehind x, int seed) {
        Object[] numbers = numbersFor(method, seed);
        try {
            int answer = (Integer) method.invoke(x, numbers);
            if (answer < FULL) {
                Edges.fail(method.getName() + Arrays.toString(numbers) + " answered " + answer);
            }
        } catch (InvocationTargetException thrown) {
            Edges.fail(method.getName() + Arrays.toString(numbers) + " threw " + thrown.getCause());
        } catch (IllegalAccessException hidden) {
            Edges.fail(method.getName() + " cannot be called");
        }
    }
}
