/** The edges of promises 24 to 33: bells, sights, one clock for all, rings, counts. */
public final class LawEdgesTest {
    private static final int NONE = Edges.NONE, UNKNOWN = Edges.UNKNOWN, OUTSIDE = Edges.OUTSIDE,
        NOT = Edges.NOT, FULL = Edges.FULL;
    private static final String EVEN = "street 4;behind 1 0;behind 2 0;behind 3 0";
    private static final String EVEN10 = "street 10;behind 1 0;behind 2 0;behind 3 0;behind 4 0;behind 5 0;behind 6 0;"
        + "behind 7 0;behind 8 0;behind 9 0";
    private static final String LATEST = EVEN10.replace(" 0", " 999");

    private LawEdgesTest() {
    }

    public static void main(String[] args) {
        Edges.run(LawEdgesTest.class, 24, 33);
    }

    private static void due(int got, int want) {
        Edges.due(got, want);
    }

    private static MinuteBehind withBells(int n) {
        MinuteBehind x = new MinuteBehind();
        for (int i = 1; i <= n; i++) {
            due(x.bell(0, 5, 1, 4), i);
        }
        return x;
    }

    private static MinuteBehind withSights(int n) {
        MinuteBehind x = new MinuteBehind();
        for (int i = 1; i <= n; i++) {
            due(x.seen(0, 0, i), i);
        }
        return x;
    }

    private static void wrongAre(MinuteBehind x, int set) {
        due(x.wrong(0), Integer.bitCount(set));
        due(x.wrong(1), set);
    }

    // ---- 24 bell

    static void promise24_xFrom0To1439() {
        MinuteBehind x = new MinuteBehind();
        due(x.bell(0, -1, 1, 0), OUTSIDE);
        due(x.bell(0, 1440, 1, 0), OUTSIDE);
        due(x.bell(0, Integer.MIN_VALUE, 1, 0), OUTSIDE);
        due(x.bell(0, Integer.MAX_VALUE, 1, 0), OUTSIDE);
        due(x.count(5), 0);
        due(x.bell(0, 0, 1, 5), 1);
        due(x.bell(0, 1439, 1, 5), 2);
    }

    static void promise24_yFrom0To1439() {
        MinuteBehind x = new MinuteBehind();
        due(x.bell(0, 0, 1, -1), OUTSIDE);
        due(x.bell(0, 0, 1, 1440), OUTSIDE);
        due(x.bell(0, 0, 1, Integer.MIN_VALUE), OUTSIDE);
        due(x.bell(0, 0, 1, Integer.MAX_VALUE), OUTSIDE);
        due(x.count(5), 0);
        due(x.bell(0, 5, 1, 0), 1);
        due(x.bell(0, 5, 1, 1439), 2);
    }

    static void promise24_notAHouseAndItself() {
        MinuteBehind x = new MinuteBehind();
        due(x.bell(0, 0, 0, 0), OUTSIDE);
        due(x.bell(3, 5, 3, 7), OUTSIDE);
        due(x.count(5), 0);
    }

    static void promise24_noSuchHouse() {
        MinuteBehind x = new MinuteBehind();
        due(x.bell(4, 0, 1, 0), UNKNOWN);
        due(x.bell(1, 0, 4, 0), UNKNOWN);
        due(x.bell(-1, 0, 1, 0), UNKNOWN);
        due(x.bell(1, 0, -1, 0), UNKNOWN);
        due(x.count(5), 0);
        due(x.bell(3, 0, 0, 0), 1);
        due(x.bell(0, 0, 3, 0), 2);
    }

    static void promise24_unknownAheadOfOutside() {
        MinuteBehind x = new MinuteBehind();
        due(x.bell(4, -1, 1, 0), UNKNOWN);
        due(x.bell(1, 0, 4, 1440), UNKNOWN);
        due(x.bell(4, 0, 4, 0), UNKNOWN);
        due(x.bell(-1, 0, -1, 0), UNKNOWN);
    }

    static void promise24_10AreTaken() {
        due(withBells(10).count(5), 10);
    }

    static void promise24_anEleventhIsFull() {
        MinuteBehind x = withBells(10);
        wrongAre(x, 0);
        due(x.bell(0, 5, 1, 5), FULL);
        due(x.count(5), 10);
        wrongAre(x, 0);
    }

    static void promise24_unknownAndOutsideAheadOfFull() {
        MinuteBehind x = withBells(10);
        due(x.bell(4, 0, 1, 0), UNKNOWN);
        due(x.bell(0, 0, 4, 0), UNKNOWN);
        due(x.bell(0, 1440, 1, 0), OUTSIDE);
        due(x.bell(0, 0, 1, -1), OUTSIDE);
        due(x.bell(0, 0, 0, 0), OUTSIDE);
    }

    // ---- 25 hush

    static void promise25_noneHad0() {
        due(new MinuteBehind().hush(), 0);
    }

    static void promise25_fullHad10() {
        MinuteBehind x = withBells(10);
        due(x.hush(), 10);
        due(x.count(5), 0);
        due(x.hush(), 0);
        due(x.bell(0, 0, 1, 0), 1);
    }

    static void promise25_noClockIsWrongThen() {
        MinuteBehind x = new MinuteBehind();
        x.bell(0, 0, 1, 0);
        due(x.wrong(0), 1);
        x.hush();
        wrongAre(x, 0);
    }

    static void promise25_sightsStay() {
        MinuteBehind x = withSights(2);
        x.bell(0, 0, 1, 0);
        x.hush();
        due(x.count(6), 2);
    }

    // ---- 26 wrong

    static void promise26_what0And1() {
        MinuteBehind x = new MinuteBehind();
        due(x.wrong(-1), OUTSIDE);
        due(x.wrong(2), OUTSIDE);
        due(x.wrong(Integer.MIN_VALUE), OUTSIDE);
        due(x.wrong(Integer.MAX_VALUE), OUTSIDE);
    }

    static void promise26_noBells() {
        wrongAre(new MinuteBehind(), 0);
    }

    static void promise26_allAreRight() {
        MinuteBehind x = new MinuteBehind();
        x.bell(0, 5, 1, 4);
        x.bell(3, 0, 2, 1);
        wrongAre(x, 0);
    }

    static void promise26_moduloADay() {
        MinuteBehind x = new MinuteBehind();
        x.bell(0, 0, 1, 1439);
        x.bell(3, 1437, 0, 0);
        wrongAre(x, 0);
        MinuteBehind y = Edges.told(LATEST);
        y.bell(0, 0, 9, 7 * 1440 - 8991);
        wrongAre(y, 0);
        y.bell(9, 1439, 0, (1439 + 8991) % 1440);
        wrongAre(y, 0);
    }

    static void promise26_byAMinute() {
        MinuteBehind x = new MinuteBehind();
        x.bell(2, 5, 3, 5);
        wrongAre(x, 4);
        MinuteBehind y = new MinuteBehind();
        y.bell(2, 5, 3, 3);
        wrongAre(y, 4);
    }

    static void promise26_byHalfADay() {
        MinuteBehind x = Edges.told(EVEN);
        x.bell(2, 0, 3, 720);
        x.bell(3, 0, 2, 720);
        wrongAre(x, 4);
    }

    static void promise26_theFewestAheadOfTheLeast() {
        MinuteBehind x = Edges.told(EVEN);
        x.bell(0, 0, 3, 1);
        x.bell(1, 0, 3, 1);
        wrongAre(x, 8);
    }

    static void promise26_ofLikeManyTheLeastSet() {
        MinuteBehind x = Edges.told(EVEN);
        x.bell(0, 0, 3, 1);
        wrongAre(x, 1);
        x.bell(1, 0, 2, 1);
        wrongAre(x, 3);
        x.bell(1, 0, 0, 0);
        wrongAre(x, 3);
    }

    static void promise26_theLeastOfHalves() {
        MinuteBehind x = Edges.told(EVEN10);
        for (int h = 0; h < 9; h++) {
            x.bell(h, h % 2, h + 1, (h + 1) % 2);
        }
        wrongAre(x, 0b0101010101);
    }

    static void promise26_theMostThatCanBeWrong() {
        MinuteBehind x = Edges.told(EVEN10);
        for (int h = 0; h < 9; h++) {
            x.bell(h, h, h + 1, h + 1);
        }
        wrongAre(x, 0b0111111111);
    }

    static void promise26_toldInAnyOrder() {
        MinuteBehind x = Edges.told(EVEN10);
        int[] places = {8, 0, 6, 2, 4, 1, 7, 3, 5};
        for (int h : places) {
            x.bell(h + 1, h == 8 ? 7 : 0, h, 0);
        }
        wrongAre(x, 512);
    }

    static void promise26_notEvenSo() {
        MinuteBehind x = Edges.told(EVEN);
        x.bell(0, 0, 1, 0);
        x.bell(0, 0, 1, 1);
        due(x.wrong(0), NONE);
        due(x.wrong(1), NONE);
        due(x.wrong(2), OUTSIDE);
    }

    static void promise26_notEvenSoRoundARing() {
        MinuteBehind x = Edges.told(EVEN);
        x.bell(0, 0, 1, 1);
        x.bell(1, 0, 2, 1);
        x.bell(2, 0, 0, 1438);
        wrongAre(x, 3);
        x.bell(2, 1, 0, 1438);
        due(x.wrong(0), NONE);
        due(x.wrong(1), NONE);
    }

    static void promise26_notEvenSoWhicheverBellWasFirst() {
        int[][] bells = {{0, 0, 1, 0}, {0, 0, 2, 0}, {1, 0, 2, 1}};
        for (int first = 0; first < 3; first++) {
            MinuteBehind x = Edges.told(EVEN);
            for (int i = 0; i < 3; i++) {
                int[] bell = bells[(first + i) % 3];
                due(x.bell(bell[0], bell[1], bell[2], bell[3]), i + 1);
                due(x.wrong(0) == NONE ? 1 : 0, i == 2 ? 1 : 0);
            }
        }
    }

    static void promise26_theLastHouseAlone() {
        MinuteBehind x = Edges.told(EVEN10);
        x.bell(8, 0, 9, 1);
        x.bell(7, 0, 9, 1);
        wrongAre(x, 512);
    }

    // ---- 27 seen

    static void promise27_peopleAre0To5() {
        MinuteBehind x = new MinuteBehind();
        due(x.seen(-1, 0, 0), UNKNOWN);
        due(x.seen(6, 0, 0), UNKNOWN);
        due(x.seen(Integer.MIN_VALUE, 0, 0), UNKNOWN);
        due(x.seen(Integer.MAX_VALUE, 0, 0), UNKNOWN);
        due(x.count(6), 0);
        for (int person = 0; person < 6; person++) {
            due(x.seen(person, 0, 0), person + 1);
        }
    }

    static void promise27_noSuchHouse() {
        MinuteBehind x = new MinuteBehind();
        due(x.seen(0, 4, 0), UNKNOWN);
        due(x.seen(0, -1, 0), UNKNOWN);
        due(x.count(6), 0);
        due(x.seen(0, 3, 0), 1);
    }

    static void promise27_cFrom0To1439() {
        MinuteBehind x = new MinuteBehind();
        due(x.seen(0, 0, -1), OUTSIDE);
        due(x.seen(0, 0, 1440), OUTSIDE);
        due(x.seen(0, 0, Integer.MIN_VALUE), OUTSIDE);
        due(x.seen(0, 0, Integer.MAX_VALUE), OUTSIDE);
        due(x.count(6), 0);
        due(x.seen(0, 0, 0), 1);
        due(x.seen(0, 0, 1439), 2);
    }

    static void promise27_unknownAheadOfOutside() {
        MinuteBehind x = new MinuteBehind();
        due(x.seen(6, 0, 1440), UNKNOWN);
        due(x.seen(0, 4, -1), UNKNOWN);
    }

    static void promise27_12AreTaken() {
        due(withSights(12).count(6), 12);
    }

    static void promise27_aThirteenthIsFull() {
        MinuteBehind x = withSights(12);
        due(x.seen(0, 3, 5), FULL);
        due(x.count(6), 12);
        due(x.liars(), 0);
    }

    static void promise27_unknownAndOutsideAheadOfFull() {
        MinuteBehind x = withSights(12);
        due(x.seen(6, 0, 0), UNKNOWN);
        due(x.seen(0, 4, 0), UNKNOWN);
        due(x.seen(0, 0, 1440), OUTSIDE);
    }

    // ---- 28 forget

    static void promise28_noneHad0() {
        due(new MinuteBehind().forget(), 0);
    }

    static void promise28_fullHad12() {
        MinuteBehind x = withSights(12);
        due(x.forget(), 12);
        due(x.count(6), 0);
        due(x.forget(), 0);
        due(x.seen(0, 0, 0), 1);
    }

    static void promise28_noOneLiesThen() {
        MinuteBehind x = new MinuteBehind();
        x.seen(3, 0, 1);
        x.seen(3, 1, 0);
        due(x.liars(), 8);
        x.forget();
        due(x.liars(), 0);
        due(x.canBe(3, 0), 63);
    }

    static void promise28_bellsStay() {
        MinuteBehind x = withBells(2);
        x.seen(0, 0, 0);
        x.forget();
        due(x.count(5), 2);
    }

    // ---- 29 liars

    static void promise29_noSights() {
        due(new MinuteBehind().liars(), 0);
    }

    static void promise29_justInTimeIsNoLie() {
        MinuteBehind x = Edges.told(EVEN + ";way 0 20");
        x.seen(2, 0, 100);
        x.seen(2, 1, 120);
        due(x.liars(), 0);
        x.seen(2, 1, 80);
        due(x.liars(), 0);
    }

    static void promise29_aMinuteTooSoonIsALie() {
        MinuteBehind x = Edges.told(EVEN + ";way 0 20");
        x.seen(2, 0, 100);
        x.seen(2, 1, 119);
        due(x.liars(), 4);
        MinuteBehind y = Edges.told(EVEN + ";way 0 20");
        y.seen(2, 0, 100);
        y.seen(2, 1, 81);
        due(y.liars(), 4);
    }

    static void promise29_byTrueTimeNotByTheClocks() {
        MinuteBehind x = Edges.told("behind 1 30;way 0 20");
        x.seen(0, 0, 100);
        x.seen(0, 1, 90);
        due(x.liars(), 0);
        x.seen(1, 0, 100);
        x.seen(1, 1, 89);
        due(x.liars(), 2);
    }

    static void promise29_twoPeopleAreNoLiars() {
        MinuteBehind x = new MinuteBehind();
        x.seen(0, 0, 1);
        x.seen(1, 1, 0);
        due(x.liars(), 0);
    }

    static void promise29_atOnePlaceNoOneLies() {
        MinuteBehind x = new MinuteBehind();
        x.seen(0, 2, 5);
        x.seen(0, 2, 5);
        x.seen(0, 2, 6);
        due(x.liars(), 0);
    }

    static void promise29_allSix() {
        MinuteBehind x = new MinuteBehind();
        for (int person = 0; person < 6; person++) {
            x.seen(person, 0, 1);
        }
        for (int person = 0; person < 6; person++) {
            x.seen(person, 1, 0);
            due(x.liars(), (2 << person) - 1);
        }
    }

    static void promise29_theFirstAndTheTwelfthSight() {
        MinuteBehind x = new MinuteBehind();
        x.seen(5, 0, 3);
        for (int i = 0; i < 10; i++) {
            x.seen(0, 0, 100);
        }
        due(x.liars(), 0);
        x.seen(5, 3, 0);
        due(x.liars(), 32);
    }

    // ---- 30 canBe

    static void promise30_noSights() {
        due(new MinuteBehind().canBe(0, 0), 63);
        due(new MinuteBehind().canBe(3, 1439), 63);
    }

    static void promise30_noSuchHouse() {
        MinuteBehind x = new MinuteBehind();
        due(x.canBe(3, 0), 63);
        due(x.canBe(4, 0), UNKNOWN);
        due(x.canBe(-1, 0), UNKNOWN);
        due(x.canBe(Integer.MIN_VALUE, 0), UNKNOWN);
        due(x.canBe(Integer.MAX_VALUE, 0), UNKNOWN);
    }

    static void promise30_cFrom0To1439() {
        MinuteBehind x = new MinuteBehind();
        due(x.canBe(0, -1), OUTSIDE);
        due(x.canBe(0, 1440), OUTSIDE);
        due(x.canBe(0, Integer.MIN_VALUE), OUTSIDE);
        due(x.canBe(0, Integer.MAX_VALUE), OUTSIDE);
    }

    static void promise30_unknownAheadOfOutside() {
        MinuteBehind x = new MinuteBehind();
        due(x.canBe(4, -1), UNKNOWN);
        due(x.canBe(-1, 1440), UNKNOWN);
    }

    static void promise30_justInTime() {
        MinuteBehind x = Edges.told(EVEN + ";way 0 20");
        x.seen(2, 0, 100);
        due(x.canBe(1, 120), 63);
        due(x.canBe(1, 119), 63 - 4);
        due(x.canBe(1, 80), 63);
        due(x.canBe(1, 81), 63 - 4);
        due(x.canBe(0, 100), 63);
    }

    static void promise30_byTrueTimeNotByTheClocks() {
        MinuteBehind x = Edges.told("behind 1 30;way 0 20");
        x.seen(5, 0, 100);
        due(x.canBe(1, 90), 63);
        due(x.canBe(1, 89), 31);
    }

    static void promise30_noLiars() {
        MinuteBehind x = new MinuteBehind();
        x.seen(3, 0, 1);
        x.seen(3, 1, 0);
        due(x.canBe(0, 1), 63 - 8);
        due(x.canBe(3, 1439), 63 - 8);
    }

    static void promise30_besideEverySight() {
        MinuteBehind x = Edges.told(EVEN);
        x.seen(1, 0, 10);
        x.seen(1, 0, 14);
        due(x.canBe(2, 12), 63);
        due(x.canBe(3, 12), 63 - 2);
        due(x.canBe(2, 11), 63 - 2);
        due(x.canBe(2, 13), 63 - 2);
    }

    static void promise30_noneOfThem() {
        MinuteBehind x = new MinuteBehind();
        for (int person = 0; person < 6; person++) {
            x.seen(person, 0, 1);
        }
        due(x.canBe(1, 0), 0);
        due(x.canBe(1, 1), 63);
    }

    static void promise30_askingIsNoSight() {
        MinuteBehind x = withSights(12);
        due(x.canBe(3, 500), 63);
        due(x.count(6), 12);
        due(x.canBe(0, 500), 63);
    }

    // ---- 31 hang

    static void promise31_what0And1() {
        MinuteBehind x = Edges.told("deed 0 0 0");
        due(x.hang(0), 0);
        due(x.hang(1), 0);
        due(x.hang(-1), OUTSIDE);
        due(x.hang(2), OUTSIDE);
        due(x.hang(Integer.MIN_VALUE), OUTSIDE);
        due(x.hang(Integer.MAX_VALUE), OUTSIDE);
    }

    static void promise31_noDeedsIsNot() {
        MinuteBehind x = new MinuteBehind();
        due(x.hang(0), NOT);
        due(x.hang(1), NOT);
        due(Edges.told("deed 0 0 0;tidy").hang(0), NOT);
    }

    static void promise31_outsideAheadOfNot() {
        MinuteBehind x = new MinuteBehind();
        due(x.hang(2), OUTSIDE);
        due(x.hang(-1), OUTSIDE);
    }

    static void promise31_ofSeveralTheLeastHouse() {
        MinuteBehind x = Edges.told("deed 1 0 0;deed 3 0 0");
        due(x.hang(0), 1);
        due(x.hang(1), 2);
        MinuteBehind y = Edges.told(EVEN + ";deed 3 0 0");
        due(y.hang(0), 0);
        due(y.hang(1), 0);
    }

    static void promise31_theLastHouse() {
        MinuteBehind x = Edges.told(LATEST, "deed 9 0 0");
        due(x.hang(0), 9);
        due(x.hang(1), 0);
    }

    static void promise31_tenDeedsFarApart() {
        MinuteBehind x = Edges.told(LATEST, "deed 0 0 0" + ";deed 0 0 0".repeat(4) + ";deed 9 0 0".repeat(5));
        due(x.hang(0), 0);
        due(x.hang(1), 5 * 8991);
    }

    static void promise31_aHouseWithoutDeeds() {
        MinuteBehind x = Edges.told("behind 1 0;deed 1 0 0");
        due(x.hang(0), 0);
        due(x.hang(1), 0);
    }

    static void promise31_differencesWithoutSign() {
        MinuteBehind x = Edges.told("behind 1 10;behind 2 1;behind 3 10;deed 0 0 0;deed 2 0 0;deed 3 0 0");
        due(x.hang(0), 2);
        due(x.hang(1), 21);
    }

    static void promise31_clocksAndLengthsDoNotCount() {
        MinuteBehind x = Edges.told("deed 1 1439 99;deed 1 0 0;deed 3 700 50");
        due(x.hang(0), 1);
        due(x.hang(1), 2);
    }

    // ---- 32 ring

    static void promise32_from1To9999() {
        MinuteBehind x = new MinuteBehind();
        due(x.ring(0), OUTSIDE);
        due(x.ring(-1), OUTSIDE);
        due(x.ring(-1440), OUTSIDE);
        due(x.ring(Integer.MIN_VALUE), OUTSIDE);
        due(x.ring(1), 1440);
        due(x.ring(9999), 160);
        due(x.ring(10000), OUTSIDE);
        due(x.ring(Integer.MAX_VALUE), OUTSIDE);
    }

    static void promise32_aboveZero() {
        MinuteBehind x = new MinuteBehind();
        due(x.ring(1440), 1);
        due(x.ring(2880), 1);
        due(x.ring(8640), 1);
    }

    static void promise32_besideADay() {
        MinuteBehind x = new MinuteBehind();
        due(x.ring(1439), 1440);
        due(x.ring(1441), 1440);
        due(x.ring(720), 2);
        due(x.ring(2), 720);
    }

    static void promise32_noCommonDivisorIsAWholeDay() {
        MinuteBehind x = new MinuteBehind();
        due(x.ring(7), 1440);
        due(x.ring(9973), 1440);
    }

    static void promise32_theLeast() {
        MinuteBehind x = new MinuteBehind();
        for (int k = 1; k <= 500; k++) {
            int m = 1;
            while (k * m % 1440 != 0) {
                m++;
            }
            due(x.ring(k), m);
        }
    }

    // ---- 33 count

    static void promise33_what0To7() {
        MinuteBehind x = new MinuteBehind();
        due(x.count(0), 4);
        due(x.count(7), 0);
        due(x.count(-1), OUTSIDE);
        due(x.count(8), OUTSIDE);
        due(x.count(Integer.MIN_VALUE), OUTSIDE);
        due(x.count(Integer.MAX_VALUE), OUTSIDE);
    }

    static void promise33_allAtTheirLeast() {
        MinuteBehind x = Edges.told("street 2");
        int[] least = {2, 0, 0, 0, 0, 0, 0, 0};
        for (int what = 0; what < 8; what++) {
            due(x.count(what), least[what]);
        }
    }

    static void promise33_allFull() {
        MinuteBehind x = Edges.told("street 10" + ";wall 0 1 1".repeat(8), "deed 0 0 0" + ";deed 0 0 0".repeat(9),
            "shop 0 0 1 0 0" + ";shop 0 0 1 0 0".repeat(5));
        for (int i = 0; i < 12; i++) {
            x.walk(0);
            x.bell(0, 0, 1, 0);
            x.seen(0, 0, 0);
        }
        Edges.write(x, "x".repeat(200));
        int[] most = {10, 8, 10, 6, 12, 10, 12, 200};
        for (int what = 0; what < 8; what++) {
            due(x.count(what), most[what]);
        }
    }

    static void promise33_eachApart() {
        MinuteBehind x = Edges.told("street 3" + ";wall 0 1 1".repeat(2) + ";deed 0 0 0" + ";shop 0 0 1 0 0".repeat(4));
        for (int i = 0; i < 5; i++) {
            x.walk(0);
        }
        for (int i = 0; i < 6; i++) {
            x.bell(0, 0, 1, 0);
        }
        for (int i = 0; i < 7; i++) {
            x.seen(0, 0, 0);
        }
        x.write(0, 8);
        int[] due = {3, 2, 1, 4, 5, 6, 7, 8};
        for (int what = 0; what < 8; what++) {
            due(x.count(what), due[what]);
        }
    }
}
