/** The edges of promises 1 to 5: a new object, the text, its faults, its lines. */
public final class TextEdgesTest {
    private static final int NONE = Edges.NONE, UNKNOWN = Edges.UNKNOWN, OUTSIDE = Edges.OUTSIDE,
        NOT = Edges.NOT, FULL = Edges.FULL;
    private static final String WALL = "wall 0 1 9", DEED = "deed 0 0 0", SHOP = "shop 0 0 1 0 0", TIDY = "tidy";
    /** Ten lines without a fault at first, 200 bytes together. */
    private static final String LONGEST = lines(6, "shop 0 1000 1439 99 99")
        + ";deed 0 1439 99;deed 0 1439 99;deed 00 1439 99;deed 000 1439 99";

    private TextEdgesTest() {
    }

    public static void main(String[] args) {
        Edges.run(TextEdgesTest.class, 1, 5);
    }

    private static void due(int got, int want) {
        Edges.due(got, want);
    }

    private static String lines(int n, String line) {
        return line + (";" + line).repeat(n - 1);
    }

    /** The fault is at the first place at which a mark stands in the text, and the mark is no part of it. */
    private static void faultAtMark(MinuteBehind x, String marked) {
        due(Edges.fault(x, marked.replaceFirst("\\^", "")), marked.indexOf('^'));
    }

    private static void faultAtMark(String... marked) {
        for (String text : marked) {
            faultAtMark(new MinuteBehind(), text);
        }
    }

    private static MinuteBehind withText(int length) {
        MinuteBehind x = new MinuteBehind();
        Edges.write(x, "y".repeat(length));
        due(x.count(7), length);
        return x;
    }

    // ---- 1 a new object

    static void promise01_fourHouses() {
        MinuteBehind x = new MinuteBehind();
        due(x.count(0), 4);
        due(x.off(3), 3);
        due(x.off(4), UNKNOWN);
    }

    static void promise01_eachAMinuteBehind() {
        MinuteBehind x = new MinuteBehind();
        for (int h = 0; h < 4; h++) {
            due(x.off(h), h);
        }
    }

    static void promise01_waysOfAMinuteAndNoShortcuts() {
        MinuteBehind x = new MinuteBehind();
        for (int h = 0; h < 3; h++) {
            due(x.far(h, h + 1), 1);
        }
        due(x.far(0, 3), 3);
        due(x.count(1), 0);
    }

    static void promise01_noneOfAllElse() {
        MinuteBehind x = new MinuteBehind();
        for (int what = 1; what <= 7; what++) {
            due(x.count(what), 0);
        }
        due(x.deed(0, 0), UNKNOWN);
        due(x.order(0), NONE);
        due(x.trade(0, 0, 0), NONE);
        due(x.walked(0, 0), NOT);
        due(x.hang(0), NOT);
    }

    static void promise01_oneStandsAtHouse0AtTime0() {
        MinuteBehind x = new MinuteBehind();
        due(x.here(0), 0);
        due(x.here(1), 0);
        due(x.here(2), 0);
        due(x.here(3), 100);
    }

    static void promise01_nothingIsKept() {
        due(new MinuteBehind().back(0), NOT);
        due(new MinuteBehind().back(1), NOT);
    }

    static void promise01_objectsAreApart() {
        MinuteBehind x = Edges.told("street 9");
        x.write('t', 1);
        due(new MinuteBehind().count(0), 4);
        due(new MinuteBehind().count(7), 0);
    }

    // ---- 2 write

    static void promise02_nFrom1() {
        MinuteBehind x = new MinuteBehind();
        due(x.write('t', 0), OUTSIDE);
        due(x.write('t', -1), OUTSIDE);
        due(x.write('t', Integer.MIN_VALUE), OUTSIDE);
        due(x.count(7), 0);
        due(x.write('t', 1), 1);
    }

    static void promise02_nTo8() {
        MinuteBehind x = new MinuteBehind();
        due(x.write(0, 9), OUTSIDE);
        due(x.write(0, 64), OUTSIDE);
        due(x.write(0, Integer.MAX_VALUE), OUTSIDE);
        due(x.count(7), 0);
        due(x.write(0, 8), 8);
    }

    static void promise02_everyNBetween() {
        MinuteBehind x = new MinuteBehind();
        int length = 0;
        for (int n = 1; n <= 8; n++) {
            length += n;
            due(x.write(Edges.bytes("tidytidy"), n), length);
        }
    }

    static void promise02_byte0ComesFirst() {
        MinuteBehind x = new MinuteBehind();
        due(x.write('t' | 'i' << 8 | 'd' << 16 | 'y' << 24, 4), 4);
        due(x.fault(), NONE);
    }

    static void promise02_bytesBehindTheNthAreNotTaken() {
        MinuteBehind x = new MinuteBehind();
        due(x.write(Edges.bytes("tidyyyyy"), 4), 4);
        due(x.fault(), NONE);
    }

    static void promise02_theEighthByteIsTaken() {
        MinuteBehind x = new MinuteBehind();
        due(x.write(Edges.bytes("street 9"), 8), 8);
        due(x.street(), 1);
        due(x.count(0), 9);
    }

    static void promise02_bytesAbove127StandAsTheyAre() {
        MinuteBehind x = new MinuteBehind();
        due(x.write(Edges.bytes("tidy" + (char) 255), 5), 5);
        due(x.fault(), 4);
        due(x.erase(), 5);
        due(x.write(Edges.bytes("street " + (char) ('2' + 128)), 8), 8);
        due(x.fault(), 7);
    }

    static void promise02_200BytesAreTaken() {
        MinuteBehind x = withText(192);
        due(x.write(0, 8), 200);
        MinuteBehind y = withText(199);
        due(y.write(0, 1), 200);
    }

    static void promise02_201BytesAreFull() {
        MinuteBehind x = withText(200);
        due(x.write(0, 1), FULL);
        due(x.write(0, 8), FULL);
        due(withText(193).write(0, 8), FULL);
        due(withText(199).write(0, 2), FULL);
    }

    static void promise02_fullTakesNoPartOfTheBytes() {
        MinuteBehind x = withText(196);
        due(x.write(0, 5), FULL);
        due(x.count(7), 196);
        due(x.write(0, 4), 200);
    }

    static void promise02_outsideAheadOfFull() {
        MinuteBehind x = withText(200);
        due(x.write(0, 9), OUTSIDE);
        due(x.write(0, 0), OUTSIDE);
        due(x.count(7), 200);
    }

    static void promise02_behindEraseThereIsRoomAgain() {
        MinuteBehind x = withText(200);
        x.erase();
        due(x.write(0, 8), 8);
    }

    // ---- 3 erase

    static void promise03_emptyHad0() {
        due(new MinuteBehind().erase(), 0);
    }

    static void promise03_fullHad200() {
        MinuteBehind x = withText(200);
        due(x.erase(), 200);
        due(x.count(7), 0);
        due(x.erase(), 0);
    }

    static void promise03_behindItTheTextIsEmpty() {
        MinuteBehind x = withText(5);
        x.erase();
        due(x.fault(), 0);
        Edges.write(x, TIDY);
        due(x.fault(), NONE);
    }

    static void promise03_onlyTheTextGoes() {
        MinuteBehind x = Edges.told("street 5;" + DEED);
        x.go(2);
        Edges.write(x, TIDY);
        due(x.erase(), 4);
        due(x.count(0), 5);
        due(x.count(2), 1);
        due(x.here(0), 2);
    }

    // ---- 4 fault: numbers and their bounds

    static void promise04_streetFrom2() {
        Edges.taken("street 2");
        faultAtMark("street ^1", "street ^0");
    }

    static void promise04_streetTo10() {
        Edges.taken("street 10");
        faultAtMark("street ^11", "street ^9999");
    }

    static void promise04_behindHouseFrom1() {
        Edges.taken("behind 1 5");
        faultAtMark("behind ^0 5");
    }

    static void promise04_behindHouseToTheLast() {
        Edges.taken("behind 3 5");
        faultAtMark("behind ^4 5");
    }

    static void promise04_behindFrom0To999() {
        Edges.taken("behind 1 0", "behind 1 999");
        faultAtMark("behind 1 ^1000");
    }

    static void promise04_wayOnlyToANextOneThatThereIs() {
        Edges.taken("way 0 5", "way 2 5", "street 2;way 0 5", "street 10;way 8 5");
        faultAtMark("way ^3 5", "way ^4 5", "street 2;way ^1 5", "street 10;way ^9 5");
    }

    static void promise04_wayFrom1To99() {
        Edges.taken("way 0 1", "way 0 99");
        faultAtMark("way 0 ^0", "way 0 ^100");
    }

    static void promise04_wallFromAHouseThatThereIs() {
        Edges.taken("wall 0 3 5", "wall 3 0 5");
        faultAtMark("wall ^4 0 5", "wall ^10 0 5");
    }

    static void promise04_wallToAHouseThatThereIs() {
        Edges.taken("wall 1 3 5", "wall 1 0 5");
        faultAtMark("wall 0 ^4 5", "wall 0 ^10 5");
    }

    static void promise04_wallNotToTheSameHouse() {
        Edges.taken("wall 0 1 5", "wall 3 2 5");
        faultAtMark("wall 0 ^0 5", "wall 3 ^3 5", "wall 02 ^2 5");
    }

    static void promise04_wallFrom1To99() {
        Edges.taken("wall 0 2 1", "wall 0 2 99");
        faultAtMark("wall 0 2 ^0", "wall 0 2 ^100");
    }

    static void promise04_deedAtAHouseThatThereIs() {
        Edges.taken("deed 0 5 5", "deed 3 5 5");
        faultAtMark("deed ^4 5 5");
    }

    static void promise04_deedClockFrom0To1439() {
        Edges.taken("deed 1 0 5", "deed 1 1439 5");
        faultAtMark("deed 1 ^1440 5");
    }

    static void promise04_deedMinutesFrom0To99() {
        Edges.taken("deed 1 5 0", "deed 1 5 99");
        faultAtMark("deed 1 5 ^100");
    }

    static void promise04_shopAtAHouseThatThereIs() {
        Edges.taken("shop 0 5 6 7 8", "shop 3 5 6 7 8");
        faultAtMark("shop ^4 5 6 7 8");
    }

    static void promise04_shopOpensFrom0To1439() {
        Edges.taken("shop 1 0 6 7 8", "shop 1 1438 1439 7 8");
        faultAtMark("shop 1 ^1440 1439 7 8", "shop 1 1439 ^1439 7 8", "shop 1 1439^");
    }

    static void promise04_shopOpensBelowItCloses() {
        Edges.taken("shop 1 5 6 7 8");
        faultAtMark("shop 1 5 ^5 7 8", "shop 1 5 ^4 7 8", "shop 1 0 ^0 7 8");
    }

    static void promise04_shopClosesTo1439() {
        Edges.taken("shop 1 0 1439 7 8");
        faultAtMark("shop 1 0 ^1440 7 8");
    }

    static void promise04_shopSellsFor0To99() {
        Edges.taken("shop 1 5 6 0 8", "shop 1 5 6 99 8");
        faultAtMark("shop 1 5 6 ^100 8");
    }

    static void promise04_shopBuysFor0To99() {
        Edges.taken("shop 1 5 6 7 0", "shop 1 5 6 7 99");
        faultAtMark("shop 1 5 6 7 ^100");
    }

    static void promise04_numbersOf1To4Digits() {
        Edges.taken("street 5", "street 05", "street 005", "street 0005", "deed 0000 0000 0000");
        faultAtMark("street ^00005", "deed 0 ^00000 0", "street 0005;behind ^00001 1");
    }

    static void promise04_numbersOfManyDigitsDoNotWrapAround() {
        faultAtMark("street ^4294967298", "street ^18446744073709551618", "way 0 ^4294967301",
            "deed 0 ^" + "0".repeat(180) + "7");
    }

    // ---- 4 fault: words, other bytes, blanks

    static void promise04_emptyTextEndsTooSoon() {
        due(new MinuteBehind().fault(), 0);
    }

    static void promise04_wordsAsWritten() {
        Edges.taken("street 4", "behind 1 1", "way 0 1", "wall 0 1 1", "deed 0 0 0", "shop 0 0 1 0 0", "tidy");
        faultAtMark("^tid", "^tidyy", "^stree 4", "^streets 4", "^wa 0 1", "^ways 0 1", "^walk 0 1 1", "^t", "^x");
    }

    static void promise04_everyLetterOfAWordCounts() {
        String[] lines = {"street 4", "behind 1 1", "way 0 1", "wall 0 1 1", "deed 0 0 0", "shop 0 0 1 0 0", "tidy"};
        for (String line : lines) {
            for (int i = 0; i < line.length() && line.charAt(i) != ' '; i++) {
                faultAtMark("^" + line.substring(0, i) + "q" + line.substring(i + 1));
            }
        }
    }

    static void promise04_onlySmallLetters() {
        faultAtMark("^Tidy", "^tiDy", "^tidY", "tidy^Y", "^TIDY", "^Street 4", "^sTreet 4");
    }

    static void promise04_lettersAreAToZ() {
        faultAtMark("^tidya", "^tidyz", "tidy^`", "tidy^{");
    }

    static void promise04_digitsAre0To9() {
        Edges.taken("behind 1 0", "behind 1 9", "behind 1 909");
        faultAtMark("behind 1 9^/", "behind 1 9^:", "behind 1 ^/", "behind 1 ^:");
    }

    static void promise04_onlySemicolonPartsLines() {
        Edges.taken("tidy;tidy");
        faultAtMark("tidy^:tidy", "tidy^<tidy", "tidy^,tidy", "tidy^.", "tidy ^tidy", "tidy^\ntidy");
    }

    static void promise04_onlyByte32IsBlank() {
        Edges.taken("street   4");
        faultAtMark("street^\t4", "street^\n4", "street^" + (char) 31 + "4", "street^!4", "street^" + (char) 160 + "4");
    }

    static void promise04_everyOtherByteIsAToken() {
        for (int b = 0; b < 256; b++) {
            boolean isOfTheRow = b >= 'a' && b <= 'z';
            if (b != ' ' && b != ';') {
                faultAtMark(isOfTheRow ? "^tidy" + (char) b : "tidy^" + (char) b);
            }
        }
    }

    static void promise04_blanksAreNoTokens() {
        Edges.taken("  tidy", "tidy  ", "tidy ; tidy", "way  0   1", "way0 1", "wall 0 1 1 ;tidy");
        faultAtMark("tidy  ^0", "   ^", "tidy;  ^");
    }

    static void promise04_wordWhereANumberMustBe() {
        faultAtMark("street ^x", "street ^street", "behind 1 ^x", "way 0 1;wall 0 ^tidy");
    }

    static void promise04_numberWhereAWordMustBe() {
        faultAtMark("^4", "^4 street", "tidy;^4");
    }

    static void promise04_aNumberTooMany() {
        faultAtMark("tidy ^0", "street 4 ^4", "behind 1 1 ^1", "way 0 1 ^1", "wall 0 1 1 ^1", "deed 0 0 0 ^0",
            "shop 0 0 1 0 0 ^0");
    }

    static void promise04_noSignAheadOfANumber() {
        faultAtMark("way ^-1 5", "way ^+1 5", "street ^-3");
    }

    // ---- 4 fault: the end, the lines, the counts

    static void promise04_endTooSoonIsAtTheLength() {
        faultAtMark("street^", "behind^", "behind 1^", "way^", "way 0^", "wall^", "wall 0^", "wall 0 1^", "deed^",
            "deed 0^", "deed 0 0^", "shop^", "shop 0^", "shop 0 0^", "shop 0 0 1^", "shop 0 0 1 0^", "tidy;^");
    }

    static void promise04_endOfTheLineTooSoon() {
        faultAtMark("street^;", "behind 1^;", "way 0^;tidy", "wall 0 1^;tidy", "deed 0 0^;tidy", "shop 0 0 1 0^;tidy");
    }

    static void promise04_noLineIsEmpty() {
        faultAtMark("^;", "^;tidy", "tidy;^;tidy", "tidy;^");
    }

    static void promise04_endTooSoonOfAFullText() {
        String text = "deed 0 0" + " ".repeat(192);
        due(Edges.fault(text), 200);
    }

    static void promise04_theLastByteCounts() {
        due(LONGEST.length(), 200);
        Edges.taken(LONGEST);
        due(Edges.fault(LONGEST.substring(0, 199) + "x"), 199);
        due(Edges.fault(LONGEST.substring(0, 199) + ";"), 199);
    }

    static void promise04_10Lines() {
        Edges.taken(lines(10, TIDY));
        faultAtMark(lines(10, TIDY) + "^;tidy", lines(10, TIDY) + "^;", lines(10, TIDY) + "^;x");
    }

    static void promise04_10LinesOfAnyKind() {
        Edges.taken(lines(10, "street 4"), lines(10, "way 0 1"), lines(10, "behind 1 1"), lines(10, DEED));
        faultAtMark(lines(10, DEED) + "^;" + DEED, lines(10, "street 4") + "^;street 4");
    }

    static void promise04_8Shortcuts() {
        Edges.taken(lines(8, WALL), lines(8, WALL) + ";tidy");
        faultAtMark(lines(8, WALL) + ";^" + WALL);
    }

    static void promise04_8ShortcutsOfSeveralTexts() {
        MinuteBehind x = Edges.told(lines(7, WALL));
        due(Edges.fault(x, WALL), NONE);
        faultAtMark(x, WALL + ";^" + WALL);
        Edges.tell(x, WALL);
        faultAtMark(x, "^" + WALL);
    }

    static void promise04_10Deeds() {
        Edges.taken(lines(10, DEED));
        MinuteBehind x = Edges.told(lines(9, DEED));
        due(Edges.fault(x, DEED), NONE);
        faultAtMark(x, DEED + ";^" + DEED);
        Edges.tell(x, DEED);
        faultAtMark(x, "^" + DEED);
    }

    static void promise04_6Shops() {
        Edges.taken(lines(6, SHOP), lines(6, SHOP) + ";tidy");
        faultAtMark(lines(6, SHOP) + ";^" + SHOP);
    }

    static void promise04_6ShopsOfSeveralTexts() {
        MinuteBehind x = Edges.told(lines(5, SHOP));
        due(Edges.fault(x, SHOP), NONE);
        faultAtMark(x, SHOP + ";^" + SHOP);
        Edges.tell(x, SHOP);
        faultAtMark(x, "^" + SHOP);
    }

    static void promise04_oneTooManyIsAtItsWordWhateverItsNumbers() {
        faultAtMark(lines(8, WALL) + ";^wall 9 9 0", lines(8, WALL) + ";^wall", lines(6, SHOP) + ";^shop x");
        faultAtMark(Edges.told(lines(10, DEED)), "^deed 99999");
    }

    static void promise04_tidyMakesRoomForDeedsAndShops() {
        due(Edges.fault(Edges.told(lines(10, DEED)), "tidy;" + lines(9, DEED)), NONE);
        MinuteBehind x = Edges.told(lines(6, SHOP));
        due(Edges.fault(x, "tidy;" + lines(6, SHOP)), NONE);
        faultAtMark(x, "tidy;" + lines(6, SHOP) + ";^" + SHOP);
    }

    static void promise04_tidyMakesNoRoomForShortcuts() {
        faultAtMark(Edges.told(lines(8, WALL)), "tidy;^" + WALL);
    }

    static void promise04_streetMakesRoomForAll() {
        due(Edges.fault(Edges.told(lines(8, WALL)), "street 4;" + lines(8, WALL)), NONE);
        due(Edges.fault(Edges.told(lines(10, DEED)), "street 4;" + lines(9, DEED)), NONE);
        due(Edges.fault(Edges.told(lines(6, SHOP)), "street 4;" + lines(6, SHOP)), NONE);
        faultAtMark(Edges.told(lines(8, WALL)), "street 4;" + lines(8, WALL) + ";^" + WALL);
        faultAtMark(Edges.told(lines(6, SHOP)), "street 4;" + lines(6, SHOP) + ";^" + SHOP);
    }

    static void promise04_housesBehindTheLinesAhead() {
        Edges.taken("street 5;behind 4 1", "street 5;way 3 1", "street 5;wall 4 0 1", "street 5;wall 0 4 1",
            "street 5;deed 4 0 0", "street 5;shop 4 0 1 0 0", "street 5;tidy;deed 4 0 0");
        faultAtMark("street 3;behind ^3 1", "street 3;way ^2 1", "street 3;wall ^3 0 1", "street 3;wall 0 ^3 1",
            "street 3;deed ^3 0 0", "street 3;shop ^3 0 1 0 0", "street 5;street 3;deed ^3 0 0");
    }

    static void promise04_notTheHousesOfLinesBehind() {
        faultAtMark("deed ^4 0 0;street 5", "behind ^4 1;street 5");
        Edges.taken("deed 3 0 0;street 2");
    }

    static void promise04_theHousesThatThereAre() {
        faultAtMark(Edges.told("street 2"), "way ^1 1");
        due(Edges.fault(Edges.told("street 7"), "deed 6 0 0"), NONE);
    }

    static void promise04_theFirstOfSeveral() {
        faultAtMark("street ^1;street 11;x", "tidy;deed ^4 1440 100", "deed 0 ^1440 100", "wall ^4 4 0");
    }

    static void promise04_itDoesNoLines() {
        MinuteBehind x = new MinuteBehind();
        Edges.write(x, "street 9;" + DEED);
        due(x.fault(), NONE);
        due(x.count(0), 4);
        due(x.count(2), 0);
        due(x.count(7), 19);
        due(x.fault(), NONE);
    }

    // ---- 5 street

    static void promise05_emptyTextIsNot() {
        due(new MinuteBehind().street(), NOT);
    }

    static void promise05_1And10Lines() {
        MinuteBehind x = new MinuteBehind();
        Edges.write(x, TIDY);
        due(x.street(), 1);
        Edges.write(x, lines(10, TIDY));
        due(x.street(), 10);
        Edges.write(x, lines(11, TIDY));
        due(x.street(), NOT);
    }

    static void promise05_200BytesAreDone() {
        MinuteBehind x = Edges.told(LONGEST);
        due(x.count(2), 4);
        due(x.count(3), 6);
        due(x.deed(3, 2), 99);
    }

    static void promise05_theTextIsEmptyThen() {
        MinuteBehind x = Edges.told(TIDY);
        due(x.count(7), 0);
        due(x.street(), NOT);
    }

    static void promise05_aFaultInTheLastLineIsNotAndDoesNone() {
        MinuteBehind x = Edges.told(DEED + ";" + WALL);
        Edges.write(x, "street 9;tidy;deed 9 0 0");
        due(x.street(), NOT);
        due(x.count(0), 4);
        due(x.count(1), 1);
        due(x.count(2), 1);
        due(x.count(7), 24);
        due(x.fault(), 19);
    }

    static void promise05_notLeavesWhereOneStandsAndWhatIsTold() {
        MinuteBehind x = busy();
        Edges.write(x, "x");
        due(x.street(), NOT);
        due(x.here(0), 2);
        due(x.here(1), 9);
        due(x.count(4), 1);
        due(x.count(5), 1);
        due(x.count(6), 1);
        due(x.back(1), 2);
        due(x.back(0), 2);
    }

    /** One who went and waited, with something kept, and a walk, a bell, a sight. */
    private static MinuteBehind busy() {
        MinuteBehind x = new MinuteBehind();
        x.go(2);
        x.keep(0);
        x.keep(1);
        x.await(7);
        x.walk(1);
        x.bell(0, 0, 1, 0);
        x.seen(0, 0, 0);
        return x;
    }

    static void promise05_behindItOneStandsAtHouse0() {
        MinuteBehind x = busy();
        Edges.tell(x, TIDY);
        due(x.here(0), 0);
    }

    static void promise05_behindItTrueTimeIs0() {
        MinuteBehind x = busy();
        Edges.tell(x, TIDY);
        due(x.here(1), 0);
    }

    static void promise05_behindItNoWalkIsTold() {
        MinuteBehind x = busy();
        Edges.tell(x, TIDY);
        due(x.count(4), 0);
        due(x.walked(0, 0), NOT);
        due(x.rest(), 0);
    }

    static void promise05_behindItNoBellsAreTold() {
        MinuteBehind x = busy();
        due(x.wrong(0), 1);
        Edges.tell(x, TIDY);
        due(x.count(5), 0);
        due(x.wrong(0), 0);
        due(x.hush(), 0);
    }

    static void promise05_behindItNoSightsAreTold() {
        MinuteBehind x = busy();
        x.seen(0, 1, 0);
        x.seen(0, 0, 1);
        due(x.liars(), 1);
        Edges.tell(x, TIDY);
        due(x.count(6), 0);
        due(x.liars(), 0);
        due(x.canBe(0, 0), 63);
        due(x.forget(), 0);
    }

    static void promise05_behindItNothingIsKept() {
        MinuteBehind x = busy();
        Edges.tell(x, TIDY);
        due(x.back(0), NOT);
        due(x.back(1), NOT);
    }

    static void promise05_streetHasAllElseAsAtFirst() {
        MinuteBehind x = Edges.told("street 10;behind 1 9;behind 9 9;way 0 9;way 8 9;wall 0 9 5;" + DEED + ";" + SHOP);
        Edges.tell(x, "street 10");
        for (int h = 0; h < 10; h++) {
            due(x.off(h), h);
            due(x.far(0, h), h);
            due(x.far(h, 9), 9 - h);
        }
        due(x.count(1), 0);
        due(x.count(2), 0);
        due(x.count(3), 0);
        due(x.trade(0, 0, 0), NONE);
    }

    static void promise05_housesThatComeAgainAreAsAtFirst() {
        MinuteBehind x = Edges.told("street 10;behind 9 99;way 8 99", "street 2", "street 10");
        due(x.off(9), 9);
        due(x.far(8, 9), 1);
    }

    static void promise05_tidyLeavesHousesWaysAndShortcuts() {
        MinuteBehind x = Edges.told("street 5;behind 1 9;way 0 9;wall 0 4 5;" + DEED + ";" + SHOP + ";tidy");
        due(x.count(0), 5);
        due(x.off(1), 9);
        due(x.far(0, 1), 8);
        due(x.count(1), 1);
        due(x.count(2), 0);
        due(x.count(3), 0);
    }

    static void promise05_tidyOfNoneIsALine() {
        due(Edges.told("tidy").count(2), 0);
    }

    static void promise05_linesAreDoneInTheirOrder() {
        MinuteBehind x = Edges.told("behind 1 5;behind 1 7;deed 0 1 1;tidy;deed 0 2 2;deed 0 3 3");
        due(x.off(1), 7);
        due(x.count(2), 2);
        due(x.deed(0, 1), 2);
        due(x.deed(1, 1), 3);
        due(Edges.told("behind 1 9;street 4").off(1), 1);
        due(Edges.told("street 4;behind 1 9").off(1), 9);
        due(Edges.told("street 9;street 3").count(0), 3);
    }

    static void promise05_aTextWithoutStreetAddsToWhatThereIs() {
        MinuteBehind x = Edges.told("street 5;" + WALL + ";" + DEED + ";" + SHOP, WALL + ";" + DEED + ";" + SHOP);
        due(x.count(0), 5);
        due(x.count(1), 2);
        due(x.count(2), 2);
        due(x.count(3), 2);
    }

    static void promise05_aWayToldAgainIsTheLaterOne() {
        due(Edges.told("way 0 5;way 0 50").far(0, 1), 50);
        due(Edges.told("way 0 50", "way 0 5").far(0, 1), 5);
    }
}
