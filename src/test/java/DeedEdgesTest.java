/** The edges of promises 17 to 23: deeds one behind the other, walks, trades. */
public final class DeedEdgesTest {
    private static final int NONE = Edges.NONE, UNKNOWN = Edges.UNKNOWN, OUTSIDE = Edges.OUTSIDE,
        NOT = Edges.NOT, FULL = Edges.FULL;
    /** Four houses whose clocks all show the true time. */
    private static final String EVEN = "street 4;behind 1 0;behind 2 0;behind 3 0";
    private static final String LATEST = "street 10;behind 1 999;behind 2 999;behind 3 999;behind 4 999;behind 5 999;"
        + "behind 6 999;behind 7 999;behind 8 999;behind 9 999";
    private static final String LONGEST_WAYS = "way 0 99;way 1 99;way 2 99;way 3 99;way 4 99;way 5 99;way 6 99;way 7 99;"
        + "way 8 99";

    private DeedEdgesTest() {
    }

    public static void main(String[] args) {
        Edges.run(DeedEdgesTest.class, 17, 23);
    }

    private static void due(int got, int want) {
        Edges.due(got, want);
    }

    private static void inOrder(MinuteBehind x, int... deeds) {
        for (int i = 0; i < deeds.length; i++) {
            due(x.order(i), deeds[i]);
        }
        due(x.order(deeds.length), NONE);
    }

    private static void row(MinuteBehind x, int last, int... deeds) {
        due(x.most(last, NONE), deeds.length);
        for (int i = 0; i < deeds.length; i++) {
            due(x.most(last, i), deeds[i]);
        }
        due(x.most(last, deeds.length), NONE);
    }

    private static MinuteBehind walking(MinuteBehind x, int... houses) {
        for (int i = 0; i < houses.length; i++) {
            due(x.walk(houses[i]), i + 1);
        }
        return x;
    }

    private static void traded(MinuteBehind x, int house, int time, int... all) {
        for (int what = 0; what < all.length; what++) {
            due(x.trade(house, time, what), all[what]);
        }
    }

    private static void noTrade(MinuteBehind x, int house, int time) {
        traded(x, house, time, NONE, NONE, NONE, NONE);
    }

    // ---- 17 order

    static void promise17_below0IsOutside() {
        MinuteBehind x = Edges.told("deed 0 0 0");
        due(x.order(0), 0);
        due(x.order(-1), OUTSIDE);
        due(x.order(Integer.MIN_VALUE), OUTSIDE);
        due(new MinuteBehind().order(-1), OUTSIDE);
    }

    static void promise17_notSoManyIsNone() {
        MinuteBehind x = Edges.told("deed 0 0 0;deed 0 0 0");
        due(x.order(1), 1);
        due(x.order(2), NONE);
        due(x.order(Integer.MAX_VALUE), NONE);
        due(new MinuteBehind().order(0), NONE);
    }

    static void promise17_tenDeeds() {
        MinuteBehind x = Edges.told("deed 0 9 0;deed 0 8 0;deed 0 7 0;deed 0 6 0;deed 0 5 0;deed 0 4 0;deed 0 3 0;"
            + "deed 0 2 0;deed 0 1 0;deed 0 0 0");
        inOrder(x, 9, 8, 7, 6, 5, 4, 3, 2, 1, 0);
        due(x.order(10), NONE);
    }

    static void promise17_likeOnesByNumber() {
        inOrder(Edges.told("deed 0 3 9;deed 3 0 0;deed 1 2 0;deed 0 3 0;deed 0 2 0"), 4, 0, 1, 2, 3);
    }

    static void promise17_byTrueTimeNotByTheClock() {
        inOrder(Edges.told("deed 3 0 0;deed 0 2 0;deed 0 4 0"), 1, 0, 2);
    }

    static void promise17_offsOfALaterText() {
        MinuteBehind x = Edges.told("deed 3 0 0;deed 0 2 0");
        inOrder(x, 1, 0);
        Edges.tell(x, "behind 3 0");
        inOrder(x, 0, 1);
        Edges.tell(x, "behind 3 1");
        inOrder(x, 1, 0);
    }

    // ---- 18 behind

    static void promise18_justInTimeLeaves0() {
        MinuteBehind x = Edges.told(EVEN + ";way 0 5;deed 0 10 3;deed 1 18 0;deed 1 17 0;deed 1 19 0");
        due(x.behind(0, 1), 100000);
        due(x.behind(0, 2), NONE);
        due(x.behind(0, 3), 100001);
    }

    static void promise18_notBehindItself() {
        due(Edges.told("deed 0 5 0").behind(0, 0), NONE);
    }

    static void promise18_likeOnesOnlyByNumber() {
        MinuteBehind x = Edges.told("deed 0 5 0;deed 0 5 0;deed 0 5 1;deed 1 4 0");
        due(x.behind(0, 1), 100000);
        due(x.behind(1, 0), NONE);
        due(x.behind(0, 2), 100000);
        due(x.behind(2, 0), NONE);
        due(x.behind(0, 3), NONE);
    }

    static void promise18_notTheOtherWayRound() {
        MinuteBehind x = Edges.told("deed 0 50 0;deed 0 5 0");
        due(x.behind(1, 0), 100045);
        due(x.behind(0, 1), NONE);
    }

    static void promise18_theLongestWait() {
        MinuteBehind x = Edges.told(LATEST, "deed 0 0 0;deed 9 1439 0");
        due(x.behind(0, 1), 100000 + 8991 + 1439 - 9);
    }

    static void promise18_theLengthOfTheLaterOneIsNotAsked() {
        due(Edges.told("deed 0 0 0;deed 0 1 99").behind(0, 1), 100001);
    }

    static void promise18_unknownOnEitherSide() {
        MinuteBehind x = Edges.told("deed 0 0 0;deed 0 1 0");
        due(x.behind(0, 1), 100001);
        due(x.behind(2, 0), UNKNOWN);
        due(x.behind(0, 2), UNKNOWN);
        due(x.behind(-1, 0), UNKNOWN);
        due(x.behind(0, -1), UNKNOWN);
        due(x.behind(2, 2), UNKNOWN);
        due(new MinuteBehind().behind(0, 0), UNKNOWN);
    }

    static void promise18_theTenthDeed() {
        MinuteBehind x = Edges.told("deed 0 0 0" + ";deed 0 7 0".repeat(9));
        due(x.behind(0, 9), 100007);
        due(x.behind(0, 10), UNKNOWN);
        due(x.behind(10, 0), UNKNOWN);
    }

    // ---- 19 most

    static void promise19_noDeeds() {
        MinuteBehind x = new MinuteBehind();
        due(x.most(NONE, NONE), 0);
        due(x.most(NONE, 0), NONE);
        due(x.most(0, NONE), UNKNOWN);
    }

    static void promise19_oneDeed() {
        row(Edges.told("deed 3 1439 99"), NONE, 0);
        row(Edges.told("deed 3 1439 99"), 0, 0);
    }

    static void promise19_tenDeedsInARow() {
        MinuteBehind x = Edges.told("deed 0 5 0" + ";deed 0 5 0".repeat(9));
        row(x, NONE, 0, 1, 2, 3, 4, 5, 6, 7, 8, 9);
        row(x, 4, 0, 1, 2, 3, 4);
    }

    static void promise19_noTwoOfTen() {
        MinuteBehind x = Edges.told("deed 0 5 9" + ";deed 0 5 9".repeat(9));
        row(x, NONE, 0);
        row(x, 9, 9);
    }

    static void promise19_lastIsADeedOrNone() {
        MinuteBehind x = Edges.told("deed 0 0 0;deed 0 1 0");
        due(x.most(1, NONE), 2);
        due(x.most(2, NONE), UNKNOWN);
        due(x.most(-2, NONE), UNKNOWN);
        due(x.most(Integer.MIN_VALUE, NONE), UNKNOWN);
        due(x.most(Integer.MAX_VALUE, NONE), UNKNOWN);
    }

    static void promise19_belowNoneIsOutside() {
        MinuteBehind x = Edges.told("deed 0 0 0");
        due(x.most(NONE, -1), 1);
        due(x.most(NONE, -2), OUTSIDE);
        due(x.most(0, -2), OUTSIDE);
        due(x.most(0, Integer.MIN_VALUE), OUTSIDE);
        due(new MinuteBehind().most(NONE, -2), OUTSIDE);
    }

    static void promise19_unknownAheadOfOutside() {
        MinuteBehind x = Edges.told("deed 0 0 0");
        due(x.most(1, -2), UNKNOWN);
        due(x.most(-2, -2), UNKNOWN);
    }

    static void promise19_notSoManyIsNone() {
        MinuteBehind x = Edges.told("deed 0 0 0;deed 0 1 0");
        due(x.most(NONE, 1), 1);
        due(x.most(NONE, 2), NONE);
        due(x.most(NONE, Integer.MAX_VALUE), NONE);
        due(x.most(0, 1), NONE);
    }

    static void promise19_aToldLastOneBoundsTheRow() {
        MinuteBehind x = Edges.told("deed 0 0 0;deed 0 1 0;deed 0 2 0;deed 0 0 9;deed 0 9 0");
        row(x, NONE, 0, 1, 2, 4);
        row(x, 1, 0, 1);
        row(x, 3, 0, 3);
        row(x, 4, 0, 1, 2, 4);
    }

    static void promise19_ofSeveralRowsTheFirstByDeeds() {
        row(Edges.told("deed 0 9 0;deed 0 0 9;deed 0 0 9"), NONE, 1, 0);
        row(Edges.told("deed 0 0 9;deed 0 0 9;deed 0 9 9;deed 0 9 9"), NONE, 0, 2);
        row(Edges.told("deed 0 9 9;deed 0 9 9;deed 0 0 9;deed 0 0 9"), NONE, 2, 0);
    }

    static void promise19_theFirstOneCountsMost() {
        MinuteBehind x = Edges.told(EVEN + ";deed 0 5 0;deed 3 5 0;deed 3 6 0;deed 0 6 0");
        row(x, NONE, 0, 3);
        row(x, 2, 1, 2);
        row(x, 3, 0, 3);
    }

    static void promise19_ofLikeFirstOnesTheSecondCounts() {
        row(Edges.told(EVEN + ";deed 0 5 5;deed 3 0 0;deed 3 5 0;deed 0 11 0"), NONE, 1, 0, 3);
        row(Edges.told(EVEN + ";deed 3 5 0;deed 3 0 0;deed 0 5 5;deed 0 11 0"), NONE, 1, 0, 3);
    }

    static void promise19_theFirstIsReachedFromAnywhere() {
        row(Edges.told("way 2 99;deed 3 0 0"), NONE, 0);
    }

    static void promise19_justInTime() {
        row(Edges.told(EVEN + ";way 0 5;deed 0 10 3;deed 1 18 0"), NONE, 0, 1);
        row(Edges.told(EVEN + ";way 0 5;deed 0 10 3;deed 1 17 0"), NONE, 0);
    }

    // ---- 20 walk, 21 rest

    static void promise20_twelveAreTaken() {
        MinuteBehind x = walking(new MinuteBehind(), 0, 1, 2, 3, 3, 3, 2, 1, 0, 0, 1, 2);
        due(x.count(4), 12);
    }

    static void promise20_aThirteenthIsFull() {
        MinuteBehind x = walking(new MinuteBehind(), 0, 0, 0, 0, 0, 0, 0, 0, 0, 0, 0, 0);
        due(x.walked(0, 0), 11);
        due(x.walk(3), FULL);
        due(x.count(4), 12);
        due(x.walked(0, 0), 11);
    }

    static void promise20_noSuchHouse() {
        MinuteBehind x = new MinuteBehind();
        due(x.walk(4), UNKNOWN);
        due(x.walk(-1), UNKNOWN);
        due(x.walk(Integer.MIN_VALUE), UNKNOWN);
        due(x.walk(Integer.MAX_VALUE), UNKNOWN);
        due(x.count(4), 0);
        due(x.walk(3), 1);
    }

    static void promise20_unknownAheadOfFull() {
        MinuteBehind x = walking(new MinuteBehind(), 0, 0, 0, 0, 0, 0, 0, 0, 0, 0, 0, 0);
        due(x.walk(4), UNKNOWN);
        due(x.walk(-1), UNKNOWN);
    }

    static void promise20_oneDoesNotGoThere() {
        MinuteBehind x = walking(new MinuteBehind(), 3);
        due(x.here(0), 0);
        due(x.here(1), 0);
    }

    static void promise21_emptyHad0() {
        due(new MinuteBehind().rest(), 0);
    }

    static void promise21_fullHad12() {
        MinuteBehind x = walking(new MinuteBehind(), 0, 0, 0, 0, 0, 0, 0, 0, 0, 0, 0, 0);
        due(x.rest(), 12);
        due(x.count(4), 0);
        due(x.rest(), 0);
        due(x.walked(0, 0), NOT);
    }

    static void promise21_thenThereIsRoomAgain() {
        MinuteBehind x = walking(new MinuteBehind(), 0, 3, 0, 3, 0, 3, 0, 3, 0, 3, 0, 3);
        x.rest();
        walking(x, 3, 2);
        due(x.walked(0, 0), 1);
    }

    // ---- 22 walked

    static void promise22_timeFrom0To9999() {
        MinuteBehind x = walking(new MinuteBehind(), 2);
        due(x.walked(0, 0), 0);
        due(x.walked(9999, 0), 9999);
        due(x.walked(-1, 0), OUTSIDE);
        due(x.walked(10000, 0), OUTSIDE);
        due(x.walked(Integer.MIN_VALUE, 0), OUTSIDE);
        due(x.walked(Integer.MAX_VALUE, 0), OUTSIDE);
    }

    static void promise22_what0To2() {
        MinuteBehind x = walking(new MinuteBehind(), 2);
        due(x.walked(5, 0), 5);
        due(x.walked(5, 1), 0);
        due(x.walked(5, 2), 0);
        due(x.walked(5, -1), OUTSIDE);
        due(x.walked(5, 3), OUTSIDE);
    }

    static void promise22_emptyIsNot() {
        MinuteBehind x = new MinuteBehind();
        due(x.walked(0, 0), NOT);
        due(x.walked(9999, 2), NOT);
    }

    static void promise22_outsideAheadOfNot() {
        MinuteBehind x = new MinuteBehind();
        due(x.walked(-1, 0), OUTSIDE);
        due(x.walked(10000, 0), OUTSIDE);
        due(x.walked(0, -1), OUTSIDE);
        due(x.walked(0, 3), OUTSIDE);
    }

    static void promise22_oneIsAtTheFirstAtTheToldTime() {
        MinuteBehind x = walking(Edges.told("street 10"), 9);
        due(x.walked(1440, 0), 1440);
        due(x.walked(1449, 1), 0);
    }

    static void promise22_theSameOneAgainIsAMinute() {
        MinuteBehind x = walking(new MinuteBehind(), 1, 1, 1, 0, 0);
        due(x.walked(100, 0), 104);
    }

    static void promise22_theLongestWalk() {
        MinuteBehind x = walking(Edges.told("street 10;" + LONGEST_WAYS), 0, 9, 0, 9, 0, 9, 0, 9, 0, 9, 0, 9);
        due(x.walked(9999, 0), 9999 + 11 * 891);
    }

    static void promise22_taxOnlyIfTheDateIsGreater() {
        MinuteBehind x = walking(new MinuteBehind(), 0, 0);
        due(x.walked(1438, 1), 0);
        due(x.walked(1439, 1), 1);
        due(x.walked(1440, 1), 0);
        due(x.walked(1439, 2), 0);
    }

    static void promise22_youngerOnlyIfTheDateIsLesser() {
        MinuteBehind x = walking(Edges.told("behind 1 2"), 0, 1);
        due(x.walked(0, 2), 1);
        due(x.walked(1, 2), 0);
        due(x.walked(1439, 2), 0);
        due(x.walked(1440, 2), 1);
        due(x.walked(1440, 1), 0);
        due(x.walked(1441, 2), 0);
    }

    static void promise22_taxesMoreThanOnceOfOneDay() {
        MinuteBehind x = walking(Edges.told("behind 1 100"), 0, 0, 1, 0, 1, 0, 1, 0, 1, 0, 1, 0);
        due(x.walked(1439, 1), 6);
        due(x.walked(1439, 2), 5);
        due(x.walked(1439, 0), 1450);
    }

    static void promise22_severalDatesAtOnceAreOne() {
        MinuteBehind x = walking(Edges.told("behind 1 999;behind 2 999;behind 3 999"), 3, 0);
        due(x.walked(0, 1), 1);
        MinuteBehind y = walking(Edges.told("behind 1 999;behind 2 999;behind 3 999"), 0, 3);
        due(y.walked(0, 2), 1);
    }

    /** The shortest way from 0 to 1 leads by 3, where it is the day ahead: the walk does not come there. */
    static void promise22_housesPassedOnTheWayAreNotAsked() {
        MinuteBehind x = walking(Edges.told("behind 1 0;behind 2 0;behind 3 999;way 0 99;way 1 99;way 2 99;"
            + "wall 0 3 1;wall 3 1 1"), 0, 1);
        due(x.walked(0, 0), 2);
        due(x.walked(0, 1), 0);
        due(x.walked(0, 2), 0);
        due(x.shows(3, 1, 1), 99);
    }

    static void promise22_datesBelow0() {
        MinuteBehind x = walking(Edges.told("behind 1 5;way 0 5"), 1, 1);
        due(x.walked(3, 1), 0);
        due(x.walked(4, 1), 1);
        due(x.walked(5, 1), 0);
    }

    static void promise22_askedAgainItIsTheSame() {
        MinuteBehind x = walking(Edges.told("behind 1 100"), 0, 1, 0);
        for (int times = 0; times < 3; times++) {
            due(x.walked(0, 0), 2);
            due(x.walked(0, 1), 1);
            due(x.walked(0, 2), 1);
        }
    }

    // ---- 23 trade

    static void promise23_timeFrom0To9999() {
        MinuteBehind x = Edges.told(EVEN + ";shop 0 0 1439 1 2");
        due(x.trade(0, 0, 3), 0);
        due(x.trade(0, 9999, 3), 9999);
        due(x.trade(0, -1, 0), OUTSIDE);
        due(x.trade(0, 10000, 0), OUTSIDE);
        due(x.trade(0, Integer.MIN_VALUE, 0), OUTSIDE);
        due(x.trade(0, Integer.MAX_VALUE, 0), OUTSIDE);
    }

    static void promise23_what0To3() {
        MinuteBehind x = Edges.told(EVEN + ";shop 0 0 1439 5 0;shop 1 0 1439 9 7");
        traded(x, 0, 10, 2, 0, 1, 11);
        due(x.trade(0, 10, -1), OUTSIDE);
        due(x.trade(0, 10, 4), OUTSIDE);
    }

    static void promise23_outsideAlsoIfThereIsNoTrade() {
        MinuteBehind x = new MinuteBehind();
        due(x.trade(0, 0, 4), OUTSIDE);
        due(x.trade(0, 10000, 0), OUTSIDE);
    }

    static void promise23_noSuchHouse() {
        MinuteBehind x = Edges.told(EVEN + ";shop 0 0 1439 1 2");
        due(x.trade(3, 0, 0), 1);
        due(x.trade(4, 0, 0), UNKNOWN);
        due(x.trade(-1, 0, 0), UNKNOWN);
        due(x.trade(Integer.MAX_VALUE, 0, 0), UNKNOWN);
    }

    static void promise23_unknownAheadOfOutside() {
        MinuteBehind x = new MinuteBehind();
        due(x.trade(4, -1, 0), UNKNOWN);
        due(x.trade(4, 10000, 0), UNKNOWN);
        due(x.trade(-1, 0, 4), UNKNOWN);
    }

    static void promise23_noShops() {
        noTrade(new MinuteBehind(), 0, 0);
    }

    static void promise23_noGainAbove0() {
        noTrade(Edges.told(EVEN + ";shop 0 0 1439 5 5"), 0, 0);
        noTrade(Edges.told(EVEN + ";shop 0 0 1439 5 4;shop 1 0 1439 9 3"), 0, 0);
        traded(Edges.told(EVEN + ";shop 0 0 1439 5 6"), 0, 0, 1, 0, 0, 0);
    }

    static void promise23_theGreatestGain() {
        traded(Edges.told(EVEN + ";shop 0 0 1439 0 99"), 0, 0, 99, 0, 0, 0);
    }

    static void promise23_theSameOneAtOnce() {
        traded(Edges.told(EVEN + ";shop 2 0 1439 1 9"), 0, 5, 8, 0, 0, 7);
    }

    static void promise23_openFromAOn() {
        MinuteBehind x = Edges.told(EVEN + ";shop 0 100 200 1 2");
        due(x.trade(0, 0, 3), 100);
        due(x.trade(0, 99, 3), 100);
        due(x.trade(0, 100, 3), 100);
        due(x.trade(0, 101, 3), 101);
    }

    static void promise23_notOpenAtB() {
        MinuteBehind x = Edges.told(EVEN + ";shop 0 100 200 1 2");
        due(x.trade(0, 199, 3), 199);
        due(x.trade(0, 200, 3), 1540);
        due(x.trade(0, 1439, 3), 1540);
    }

    static void promise23_openOneMinuteADay() {
        MinuteBehind x = Edges.told(EVEN + ";shop 0 0 1 1 2;shop 0 1438 1439 50 51");
        traded(x, 0, 0, 50, 0, 1, 1438);
        traded(x, 0, 1, 50, 0, 1, 1440 + 1438);
    }

    static void promise23_neverOpenAtTheLastMinuteOfTheDay() {
        due(Edges.told(EVEN + ";shop 0 0 1439 1 2").trade(0, 1439, 3), 1440);
    }

    static void promise23_openByTheShopsOwnClock() {
        MinuteBehind x = Edges.told("behind 1 500;behind 2 0;behind 3 0;shop 1 0 1439 1 2");
        due(x.trade(1, 0, 3), 0);
        due(x.trade(1, 499, 3), 500);
        due(x.trade(0, 498, 3), 500);
        due(x.trade(0, 499, 3), 500);
    }

    static void promise23_2880MinutesAreTaken() {
        MinuteBehind x = Edges.told(EVEN + ";shop 2 2 3 1 0;shop 3 2 3 9 9");
        traded(x, 1, 2, 8, 0, 1, 2882);
    }

    static void promise23_2881MinutesAreTooMany() {
        MinuteBehind x = Edges.told(EVEN + ";shop 2 2 3 1 0;shop 3 2 3 9 9");
        noTrade(x, 0, 1);
        traded(x, 0, 0, 8, 0, 1, 1442);
        traded(x, 0, 2, 8, 0, 1, 2882);
    }

    static void promise23_aLesserGainInTimeAheadOfAGreaterTooLate() {
        MinuteBehind x = Edges.told(EVEN + ";shop 2 2 3 1 0;shop 3 2 3 9 9;shop 0 0 1439 5 6");
        traded(x, 0, 1, 5, 0, 2, 1444);
    }

    static void promise23_theLeastThatSellsThenThatBuys() {
        MinuteBehind x = Edges.told(EVEN + ";shop 3 0 1439 9 8;shop 3 0 1439 4 8;shop 0 0 1439 4 8;shop 0 0 1439 5 1");
        traded(x, 0, 0, 4, 1, 0, 3);
    }

    static void promise23_sixShops() {
        MinuteBehind x = Edges.told(EVEN + ";shop 0 0 1439 9 9;shop 0 0 1439 9 9;shop 0 0 1439 9 9;shop 0 0 1439 9 9",
            "shop 0 0 1439 8 9;shop 1 0 1439 9 50");
        traded(x, 0, 0, 42, 4, 5, 1);
    }

    static void promise23_oneWhoTradesStandsStill() {
        MinuteBehind x = Edges.told(EVEN + ";shop 2 0 1439 1 9");
        x.trade(0, 5, 0);
        due(x.here(0), 0);
        due(x.here(1), 0);
        due(x.count(3), 1);
    }

    static void promise23_tidiedShopsTradeNoMore() {
        MinuteBehind x = Edges.told(EVEN + ";shop 0 0 1439 0 99", "tidy");
        noTrade(x, 0, 0);
        Edges.tell(x, "shop 0 0 1439 5 6");
        traded(x, 0, 0, 1, 0, 0, 0);
    }
}
