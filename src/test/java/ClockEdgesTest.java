/** The edges of the Terms' first part and of promises 6 to 11: houses, clocks, distances, deeds as told. */
public final class ClockEdgesTest {
    private static final int NONE = Edges.NONE, UNKNOWN = Edges.UNKNOWN, OUTSIDE = Edges.OUTSIDE;
    /** Ten houses, each as far behind as can be. */
    private static final String LATEST = "street 10" + behindEach(1, 9, 999);

    private ClockEdgesTest() {
    }

    public static void main(String[] args) {
        Edges.run(ClockEdgesTest.class, 6, 11);
    }

    private static void due(int got, int want) {
        Edges.due(got, want);
    }

    private static String behindEach(int first, int last, int minutes) {
        StringBuilder lines = new StringBuilder();
        for (int h = first; h <= last; h++) {
            lines.append(";behind ").append(h).append(' ').append(minutes);
        }
        return lines.toString();
    }

    private static String waysEach(int first, int last, int minutes) {
        StringBuilder lines = new StringBuilder();
        for (int h = first; h <= last; h++) {
            lines.append(";way ").append(h).append(' ').append(minutes);
        }
        return lines.toString();
    }

    // ---- Terms, part 1

    static void terms1_housesAre0ToNLess1() {
        for (int n = 2; n <= 10; n++) {
            MinuteBehind x = Edges.told("street " + n);
            due(x.count(0), n);
            due(x.off(0), 0);
            due(x.off(n - 1), n - 1);
            due(x.off(n), UNKNOWN);
            due(x.off(-1), UNKNOWN);
        }
    }

    static void terms1_everyHouseIsAMinuteBehindAtFirst() {
        MinuteBehind x = Edges.told("street 10");
        for (int h = 0; h < 10; h++) {
            due(x.off(h), h);
        }
    }

    static void terms1_behindBy0() {
        MinuteBehind x = Edges.told("street 10" + behindEach(1, 9, 0));
        for (int h = 0; h < 10; h++) {
            due(x.off(h), 0);
        }
    }

    static void terms1_behindBy999() {
        MinuteBehind x = Edges.told(LATEST);
        for (int h = 0; h < 10; h++) {
            due(x.off(h), 999 * h);
        }
    }

    static void terms1_everyWayIsAMinuteAtFirst() {
        MinuteBehind x = Edges.told("street 10");
        for (int h = 0; h < 9; h++) {
            due(x.far(h, h + 1), 1);
            due(x.far(h + 1, h), 1);
        }
    }

    static void terms1_waysOf99() {
        MinuteBehind x = Edges.told("street 10" + waysEach(0, 8, 99));
        due(x.far(0, 9), 891);
        due(x.far(9, 0), 891);
        due(x.far(8, 9), 99);
    }

    static void terms1_theWayOfAHouseLeadsToTheNextOne() {
        MinuteBehind x = Edges.told("way 1 50");
        due(x.far(0, 1), 1);
        due(x.far(1, 2), 50);
        due(x.far(2, 3), 1);
    }

    static void terms1_theDayHas1440Minutes() {
        MinuteBehind x = new MinuteBehind();
        due(x.shows(0, 1439, 0), 1439);
        due(x.shows(0, 1439, 1), 100);
        due(x.shows(0, 1440, 0), 0);
        due(x.shows(0, 1440, 1), 101);
    }

    static void terms1_aShortcutOf1AndOf99() {
        MinuteBehind x = Edges.told("way 0 99;way 1 99;way 2 99;wall 0 3 1");
        due(x.far(0, 3), 1);
        due(x.far(3, 0), 1);
        MinuteBehind y = Edges.told("way 0 99;way 1 99;way 2 99;wall 0 3 99");
        due(y.far(0, 3), 99);
        due(y.far(3, 0), 99);
    }

    static void terms1_allEightShortcutsCount() {
        MinuteBehind x = Edges.told("street 10" + waysEach(0, 8, 99),
            "wall 0 2 2;wall 0 3 3;wall 0 4 4;wall 0 5 5;wall 0 6 6;wall 0 7 7;wall 0 8 8;wall 0 9 9");
        for (int h = 2; h < 10; h++) {
            due(x.far(0, h), h);
            due(x.far(h, 0), h);
        }
    }

    static void terms1_tenDeedsCount() {
        MinuteBehind x = Edges.told("deed 0 0 0;deed 0 1 0;deed 0 2 0;deed 0 3 0;deed 0 4 0;deed 0 5 0;deed 0 6 0;"
            + "deed 0 7 0;deed 0 8 0;deed 0 9 0");
        for (int d = 0; d < 10; d++) {
            due(x.deed(d, 1), d);
        }
    }

    // ---- 6 off

    static void promise06_house0Is0() {
        due(Edges.told(LATEST).off(0), 0);
    }

    static void promise06_allThatToItTogether() {
        MinuteBehind x = Edges.told("street 5;behind 1 1;behind 2 10;behind 3 100;behind 4 500");
        due(x.off(1), 1);
        due(x.off(2), 11);
        due(x.off(3), 111);
        due(x.off(4), 611);
    }

    static void promise06_noSuchHouse() {
        MinuteBehind x = Edges.told("street 10");
        due(x.off(9), 9);
        due(x.off(10), UNKNOWN);
        due(x.off(-1), UNKNOWN);
        due(x.off(Integer.MAX_VALUE), UNKNOWN);
        due(x.off(Integer.MIN_VALUE), UNKNOWN);
    }

    static void promise06_aHouseThatIsNoMore() {
        MinuteBehind x = Edges.told("street 10", "street 2");
        due(x.off(1), 1);
        due(x.off(2), UNKNOWN);
        due(x.off(9), UNKNOWN);
    }

    // ---- 7 far

    static void promise07_toItselfIs0() {
        MinuteBehind x = Edges.told("street 10;wall 0 9 1");
        for (int h = 0; h < 10; h++) {
            due(x.far(h, h), 0);
        }
    }

    static void promise07_aLongerShortcutIsNotTaken() {
        MinuteBehind x = Edges.told("wall 0 3 4");
        due(x.far(0, 3), 3);
        Edges.tell(x, "wall 0 3 2");
        due(x.far(0, 3), 2);
    }

    static void promise07_ofSeveralShortcutsTheShortest() {
        MinuteBehind x = Edges.told("way 0 99;wall 0 1 30;wall 1 0 20;wall 0 1 25");
        due(x.far(0, 1), 20);
        due(x.far(1, 0), 20);
    }

    static void promise07_overSeveralShortcutsAndWays() {
        MinuteBehind x = Edges.told("street 10" + waysEach(0, 8, 90), "wall 0 5 1;wall 5 9 1;wall 9 3 1;wall 3 7 1");
        due(x.far(0, 7), 4);
        due(x.far(7, 0), 4);
        due(x.far(0, 8), 92);
        due(x.far(1, 2), 90);
        due(x.far(1, 8), 182);
    }

    static void promise07_unknownOnEitherSide() {
        MinuteBehind x = new MinuteBehind();
        due(x.far(3, 0), 3);
        due(x.far(4, 0), UNKNOWN);
        due(x.far(0, 4), UNKNOWN);
        due(x.far(-1, 0), UNKNOWN);
        due(x.far(0, -1), UNKNOWN);
        due(x.far(4, 4), UNKNOWN);
        due(x.far(-1, -1), UNKNOWN);
    }

    // ---- 8 shows

    static void promise08_timeFrom0To99999() {
        MinuteBehind x = new MinuteBehind();
        due(x.shows(0, 0, 0), 0);
        due(x.shows(0, 99999, 0), 639);
        due(x.shows(0, 99999, 1), 169);
        due(x.shows(0, -1, 0), OUTSIDE);
        due(x.shows(0, -1, 1), OUTSIDE);
        due(x.shows(0, 100000, 0), OUTSIDE);
        due(x.shows(0, 100000, 1), OUTSIDE);
        due(x.shows(0, Integer.MAX_VALUE, 0), OUTSIDE);
        due(x.shows(0, Integer.MIN_VALUE, 0), OUTSIDE);
    }

    static void promise08_what0And1() {
        MinuteBehind x = new MinuteBehind();
        due(x.shows(3, 5, 0), 2);
        due(x.shows(3, 5, 1), 100);
        due(x.shows(3, 5, -1), OUTSIDE);
        due(x.shows(3, 5, 2), OUTSIDE);
    }

    static void promise08_unknownAheadOfOutside() {
        MinuteBehind x = new MinuteBehind();
        due(x.shows(4, 0, 0), UNKNOWN);
        due(x.shows(-1, 0, 0), UNKNOWN);
        due(x.shows(4, -1, 0), UNKNOWN);
        due(x.shows(4, 100000, 0), UNKNOWN);
        due(x.shows(4, 0, 2), UNKNOWN);
        due(x.shows(-1, -1, -1), UNKNOWN);
    }

    static void promise08_aClockBelow0IsOfTheDayAhead() {
        MinuteBehind x = new MinuteBehind();
        due(x.shows(1, 0, 0), 1439);
        due(x.shows(1, 0, 1), 99);
        due(x.shows(1, 1, 0), 0);
        due(x.shows(1, 1, 1), 100);
    }

    static void promise08_theDateIsCutDown() {
        MinuteBehind x = Edges.told("street 4;behind 1 999;behind 2 441;behind 3 1");
        due(x.shows(2, 0, 0), 0);
        due(x.shows(2, 0, 1), 99);
        due(x.shows(2, 1439, 1), 99);
        due(x.shows(2, 1440, 1), 100);
        due(x.shows(3, 0, 0), 1439);
        due(x.shows(3, 0, 1), 98);
        due(x.shows(3, 1, 1), 99);
    }

    static void promise08_theLatestClockOfAll() {
        MinuteBehind x = Edges.told(LATEST);
        due(x.shows(9, 0, 0), 7 * 1440 - 8991);
        due(x.shows(9, 0, 1), 93);
        due(x.shows(9, 8990, 0), 1439);
        due(x.shows(9, 8990, 1), 99);
        due(x.shows(9, 8991, 0), 0);
        due(x.shows(9, 8991, 1), 100);
    }

    // ---- 9 byClocks

    static void promise09_just0IsNotBelow() {
        MinuteBehind x = Edges.told("behind 1 5;way 0 5;behind 2 6;way 1 5;behind 3 4;way 2 5");
        due(x.byClocks(0, 1), 100000);
        due(x.byClocks(1, 2), 99999);
        due(x.byClocks(2, 3), 100001);
    }

    static void promise09_toItselfIs0() {
        MinuteBehind x = Edges.told(LATEST);
        for (int h = 0; h < 10; h++) {
            due(x.byClocks(h, h), 100000);
        }
    }

    static void promise09_theLeastAndTheGreatest() {
        MinuteBehind x = Edges.told(LATEST, "wall 0 9 1");
        due(x.byClocks(0, 9), 100000 - 8990);
        due(x.byClocks(9, 0), 100000 + 8992);
    }

    static void promise09_unknownOnEitherSide() {
        MinuteBehind x = new MinuteBehind();
        due(x.byClocks(3, 0), 100006);
        due(x.byClocks(4, 0), UNKNOWN);
        due(x.byClocks(0, 4), UNKNOWN);
        due(x.byClocks(-1, 0), UNKNOWN);
        due(x.byClocks(0, -1), UNKNOWN);
        due(x.byClocks(4, 4), UNKNOWN);
    }

    // ---- 10 gaining

    static void promise10_none() {
        MinuteBehind x = Edges.told("street 10");
        due(x.gaining(0), 0);
        due(x.gaining(1), NONE);
    }

    static void promise10_what0And1() {
        MinuteBehind x = new MinuteBehind();
        due(x.gaining(-1), OUTSIDE);
        due(x.gaining(2), OUTSIDE);
        due(x.gaining(Integer.MIN_VALUE), OUTSIDE);
        due(x.gaining(Integer.MAX_VALUE), OUTSIDE);
    }

    static void promise10_belowZeroByAMinute() {
        MinuteBehind x = Edges.told("street 2;behind 1 5;way 0 5");
        due(x.gaining(0), 0);
        Edges.tell(x, "behind 1 6");
        due(x.gaining(0), 1);
        due(x.gaining(1), 1);
    }

    static void promise10_allPairsOnward() {
        MinuteBehind x = Edges.told(LATEST);
        due(x.gaining(0), 45);
        due(x.gaining(1), 9);
    }

    static void promise10_theLastPairOfAll() {
        MinuteBehind x = Edges.told("street 10" + behindEach(1, 8, 0) + ";behind 9 2");
        due(x.gaining(0), 1);
        due(x.gaining(1), 20 * 8 + 9);
    }

    static void promise10_theLeastNotTheFirst() {
        MinuteBehind x = Edges.told("behind 1 2;behind 2 0;behind 3 9;way 1 50");
        due(x.byClocks(0, 1), 99999);
        due(x.byClocks(2, 3), 99992);
        due(x.gaining(0), 2);
        due(x.gaining(1), 43);
    }

    static void promise10_ofLikeOnesTheFirst() {
        MinuteBehind x = Edges.told("behind 1 3;behind 2 0;behind 3 3;way 1 50");
        due(x.byClocks(0, 1), x.byClocks(2, 3));
        due(x.gaining(0), 2);
        due(x.gaining(1), 1);
        MinuteBehind y = Edges.told("behind 1 0;behind 2 9;behind 3 1");
        due(y.byClocks(1, 2), y.byClocks(1, 3));
        due(y.gaining(1), 22);
    }

    // ---- 11 deed

    static void promise11_what0To3() {
        MinuteBehind x = Edges.told("deed 3 1439 99");
        due(x.deed(0, 0), 3);
        due(x.deed(0, 1), 1439);
        due(x.deed(0, 2), 99);
        due(x.deed(0, 3), 1442);
        due(x.deed(0, -1), OUTSIDE);
        due(x.deed(0, 4), OUTSIDE);
        due(x.deed(0, Integer.MAX_VALUE), OUTSIDE);
    }

    static void promise11_theLeastOfAll() {
        MinuteBehind x = Edges.told("deed 0 0 0");
        for (int what = 0; what <= 3; what++) {
            due(x.deed(0, what), 0);
        }
    }

    static void promise11_theLatestBegin() {
        MinuteBehind x = Edges.told(LATEST, "deed 9 1439 99");
        due(x.deed(0, 3), 8991 + 1439);
    }

    static void promise11_theBeginFollowsTheOffs() {
        MinuteBehind x = Edges.told("deed 3 7 0", "behind 1 100");
        due(x.deed(0, 3), 109);
        due(x.deed(0, 1), 7);
    }

    static void promise11_noSuchDeed() {
        MinuteBehind x = Edges.told("deed 0 0 0;deed 0 0 0");
        due(x.deed(1, 0), 0);
        due(x.deed(2, 0), UNKNOWN);
        due(x.deed(-1, 0), UNKNOWN);
        due(x.deed(Integer.MIN_VALUE, 0), UNKNOWN);
        due(x.deed(Integer.MAX_VALUE, 0), UNKNOWN);
        due(new MinuteBehind().deed(0, 0), UNKNOWN);
    }

    static void promise11_theTenthAndTheEleventh() {
        MinuteBehind x = Edges.told("deed 1 0 0" + ";deed 1 0 0".repeat(9));
        due(x.deed(9, 0), 1);
        due(x.deed(10, 0), UNKNOWN);
    }

    static void promise11_unknownAheadOfOutside() {
        MinuteBehind x = Edges.told("deed 0 0 0");
        due(x.deed(1, 4), UNKNOWN);
        due(x.deed(-1, -1), UNKNOWN);
    }

    static void promise11_tidiedDeedsAreUnknown() {
        MinuteBehind x = Edges.told("deed 0 0 0;deed 0 5 0", "tidy;deed 0 7 0");
        due(x.deed(0, 1), 7);
        due(x.deed(1, 1), UNKNOWN);
    }
}
