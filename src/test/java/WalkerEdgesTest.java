/** The edges of promises 12 to 16: one who goes and waits, what is kept. */
public final class WalkerEdgesTest {
    private static final int UNKNOWN = Edges.UNKNOWN, OUTSIDE = Edges.OUTSIDE, NOT = Edges.NOT, FULL = Edges.FULL;

    private WalkerEdgesTest() {
    }

    public static void main(String[] args) {
        Edges.run(WalkerEdgesTest.class, 12, 16);
    }

    private static void due(int got, int want) {
        Edges.due(got, want);
    }

    private static void stands(MinuteBehind x, int house, int time) {
        due(x.here(0), house);
        due(x.here(1), time);
    }

    private static MinuteBehind at(int time) {
        MinuteBehind x = new MinuteBehind();
        Edges.awaitTill(x, time);
        return x;
    }

    // ---- 12 go

    static void promise12_inDistanceMinutes() {
        MinuteBehind x = Edges.told("way 0 99;wall 0 3 5;way 2 7");
        due(x.go(3), 5);
        due(x.go(2), 12);
        due(x.go(0), 24);
        stands(x, 0, 24);
    }

    static void promise12_theFirstAndTheLastHouse() {
        MinuteBehind x = Edges.told("street 10");
        due(x.go(9), 9);
        due(x.go(0), 18);
    }

    static void promise12_noSuchHouse() {
        MinuteBehind x = new MinuteBehind();
        due(x.go(4), UNKNOWN);
        due(x.go(-1), UNKNOWN);
        due(x.go(Integer.MIN_VALUE), UNKNOWN);
        due(x.go(Integer.MAX_VALUE), UNKNOWN);
        stands(x, 0, 0);
    }

    static void promise12_notWhereOneStands() {
        MinuteBehind x = new MinuteBehind();
        due(x.go(0), NOT);
        due(x.go(2), 2);
        due(x.go(2), NOT);
        stands(x, 2, 2);
    }

    static void promise12_99999IsReached() {
        MinuteBehind x = at(99996);
        due(x.go(3), 99999);
        stands(x, 3, 99999);
    }

    static void promise12_above99999IsFull() {
        MinuteBehind x = at(99997);
        due(x.go(3), FULL);
        stands(x, 0, 99997);
        due(x.go(2), 99999);
        due(x.go(1), FULL);
        stands(x, 2, 99999);
    }

    static void promise12_unknownAheadOfFull() {
        due(at(99999).go(4), UNKNOWN);
    }

    static void promise12_notAheadOfFull() {
        MinuteBehind x = at(99999);
        due(x.go(0), NOT);
        due(x.go(1), FULL);
    }

    // ---- 13 await

    static void promise13_from1() {
        MinuteBehind x = new MinuteBehind();
        due(x.await(0), OUTSIDE);
        due(x.await(-1), OUTSIDE);
        due(x.await(Integer.MIN_VALUE), OUTSIDE);
        stands(x, 0, 0);
        due(x.await(1), 1);
    }

    static void promise13_to9999() {
        MinuteBehind x = new MinuteBehind();
        due(x.await(10000), OUTSIDE);
        due(x.await(Integer.MAX_VALUE), OUTSIDE);
        stands(x, 0, 0);
        due(x.await(9999), 9999);
    }

    static void promise13_oneStaysWhereOneStands() {
        MinuteBehind x = new MinuteBehind();
        x.go(3);
        due(x.await(5), 8);
        stands(x, 3, 8);
    }

    static void promise13_99999IsReached() {
        MinuteBehind x = at(90000);
        due(x.await(9999), 99999);
        due(at(99998).await(1), 99999);
    }

    static void promise13_above99999IsFull() {
        MinuteBehind x = at(90001);
        due(x.await(9999), FULL);
        stands(x, 0, 90001);
        due(x.await(9998), 99999);
        due(x.await(1), FULL);
        stands(x, 0, 99999);
    }

    static void promise13_outsideAheadOfFull() {
        MinuteBehind x = at(99999);
        due(x.await(10000), OUTSIDE);
        due(x.await(0), OUTSIDE);
        due(x.await(Integer.MAX_VALUE), OUTSIDE);
    }

    // ---- 14 here

    static void promise14_what0To3() {
        MinuteBehind x = new MinuteBehind();
        x.go(3);
        x.await(1441);
        due(x.here(0), 3);
        due(x.here(1), 1444);
        due(x.here(2), 1);
        due(x.here(3), 101);
        due(x.here(-1), OUTSIDE);
        due(x.here(4), OUTSIDE);
        due(x.here(Integer.MIN_VALUE), OUTSIDE);
        due(x.here(Integer.MAX_VALUE), OUTSIDE);
    }

    static void promise14_aClockBelow0IsOfTheDayAhead() {
        MinuteBehind x = Edges.told("behind 1 2");
        x.go(1);
        due(x.here(2), 1439);
        due(x.here(3), 99);
        x.await(1);
        due(x.here(2), 0);
        due(x.here(3), 100);
    }

    static void promise14_theDayTurnsAt1440() {
        MinuteBehind x = at(1439);
        due(x.here(2), 1439);
        due(x.here(3), 100);
        x.await(1);
        due(x.here(2), 0);
        due(x.here(3), 101);
    }

    static void promise14_atTheLastMinute() {
        MinuteBehind x = at(99999);
        due(x.here(2), 639);
        due(x.here(3), 169);
    }

    static void promise14_farBehind() {
        MinuteBehind x = Edges.told("behind 1 999;behind 2 999;behind 3 999");
        x.go(3);
        due(x.here(2), 3 + 3 * 1440 - 2997);
        due(x.here(3), 97);
    }

    // ---- 15 keep

    static void promise15_k0And1() {
        MinuteBehind x = at(5);
        due(x.keep(0), 5);
        due(x.keep(1), 5);
        due(x.keep(-1), UNKNOWN);
        due(x.keep(2), UNKNOWN);
        due(x.keep(Integer.MIN_VALUE), UNKNOWN);
        due(x.keep(Integer.MAX_VALUE), UNKNOWN);
    }

    static void promise15_atTheBegin() {
        MinuteBehind x = new MinuteBehind();
        due(x.keep(1), 0);
        x.go(2);
        due(x.back(1), 0);
        stands(x, 0, 0);
    }

    static void promise15_eachApart() {
        MinuteBehind x = new MinuteBehind();
        x.go(1);
        x.keep(0);
        x.go(3);
        x.keep(1);
        x.go(0);
        due(x.back(0), 1);
        stands(x, 1, 1);
        due(x.back(1), 3);
        stands(x, 3, 3);
    }

    static void promise15_theLaterTakesItsPlace() {
        MinuteBehind x = new MinuteBehind();
        x.keep(0);
        x.go(3);
        due(x.keep(0), 3);
        x.go(0);
        due(x.back(0), 3);
        stands(x, 3, 3);
    }

    static void promise15_oneStandsStill() {
        MinuteBehind x = new MinuteBehind();
        x.go(3);
        x.keep(0);
        stands(x, 3, 3);
    }

    static void promise15_atTheLastMinute() {
        MinuteBehind x = at(99999);
        due(x.keep(0), 99999);
        due(x.back(0), 99999);
    }

    // ---- 16 back

    static void promise16_k0And1() {
        MinuteBehind x = new MinuteBehind();
        x.keep(0);
        x.keep(1);
        due(x.back(0), 0);
        due(x.back(1), 0);
        due(x.back(-1), UNKNOWN);
        due(x.back(2), UNKNOWN);
        due(x.back(Integer.MIN_VALUE), UNKNOWN);
        due(x.back(Integer.MAX_VALUE), UNKNOWN);
    }

    static void promise16_notIfNothingWasKept() {
        MinuteBehind x = new MinuteBehind();
        x.go(2);
        due(x.back(0), NOT);
        due(x.back(1), NOT);
        stands(x, 2, 2);
    }

    static void promise16_notIfOnlyTheOtherWasKept() {
        MinuteBehind x = new MinuteBehind();
        x.keep(0);
        due(x.back(1), NOT);
        MinuteBehind y = new MinuteBehind();
        y.keep(1);
        due(y.back(0), NOT);
    }

    static void promise16_notIfKeptAheadOfTheLastText() {
        MinuteBehind x = new MinuteBehind();
        x.go(2);
        x.keep(0);
        x.keep(1);
        Edges.tell(x, "tidy");
        due(x.back(0), NOT);
        due(x.back(1), NOT);
        x.keep(1);
        due(x.back(1), 0);
        due(x.back(0), NOT);
    }

    static void promise16_aTextThatIsOnlyWrittenOrHasAFaultIsNone() {
        MinuteBehind x = new MinuteBehind();
        x.go(2);
        x.keep(0);
        Edges.write(x, "tidy;x");
        x.fault();
        x.street();
        x.erase();
        x.go(0);
        due(x.back(0), 2);
        stands(x, 2, 2);
    }

    static void promise16_unknownAheadOfNot() {
        MinuteBehind x = new MinuteBehind();
        due(x.back(2), UNKNOWN);
        due(x.back(-1), UNKNOWN);
    }

    static void promise16_asOftenAsOneLikes() {
        MinuteBehind x = new MinuteBehind();
        x.go(1);
        x.keep(0);
        for (int times = 0; times < 3; times++) {
            x.await(9);
            due(x.back(0), 1);
        }
    }

    static void promise16_fromTheLastMinute() {
        MinuteBehind x = new MinuteBehind();
        x.keep(0);
        Edges.awaitTill(x, 99999);
        due(x.await(1), FULL);
        due(x.back(0), 0);
        due(x.await(1), 1);
    }
}
