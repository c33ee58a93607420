/** Each promise by hand: ordinary inputs, the edges that the document names, wrong inputs. */
public final class PromisesTest {
    private static final int NONE = MinuteBehind.NONE, UNKNOWN = MinuteBehind.UNKNOWN,
        OUTSIDE = MinuteBehind.OUTSIDE, NOT = MinuteBehind.NOT, FULL = MinuteBehind.FULL;
    private static int wrong = 0;

    private static void due(String what, int got, int want) {
        if (got != want) {
            wrong++;
            System.out.println(what + " answered " + got + ", due is " + want);
        }
    }

    private static void write(MinuteBehind x, String text) {
        for (int at = 0; at < text.length(); at += 8) {
            int n = Math.min(8, text.length() - at);
            long bytes = 0;
            for (int i = 0; i < n; i++) {
                bytes |= (long) (text.charAt(at + i) & 255) << 8 * i;
            }
            x.write(bytes, n);
        }
    }

    private static MinuteBehind told(String... texts) {
        MinuteBehind x = new MinuteBehind();
        for (String text : texts) {
            tell(x, text);
        }
        return x;
    }

    private static void tell(MinuteBehind x, String text) {
        write(x, text);
        due("street of " + text, x.street(), text.split(";").length);
    }

    private static void faultDue(MinuteBehind x, String text, int want) {
        x.erase();
        write(x, text);
        due("fault of '" + text + "'", x.fault(), want);
        due("length of '" + text + "'", x.count(7), text.length());
        if (want != NONE) {
            due("street of '" + text + "'", x.street(), NOT);
            due("length behind street of '" + text + "'", x.count(7), text.length());
        }
        x.erase();
    }

    private static void faultDue(String text, int want) {
        faultDue(new MinuteBehind(), text, want);
    }

    public static void main(String[] args) {
        newObject();
        write();
        erase();
        faultInWords();
        faultInNumbers();
        faultInPlaces();
        faultInCounts();
        street();
        off();
        far();
        shows();
        byClocks();
        gaining();
        deed();
        go();
        await();
        here();
        keepAndBack();
        order();
        behind();
        most();
        walkAndRest();
        walked();
        trade();
        tradeTimes();
        bellAndHush();
        wrong();
        seenAndForget();
        liars();
        canBe();
        hang();
        ring();
        count();
        System.out.println(wrong == 0 ? "all promises hold" : wrong + " answers are not as due");
        if (wrong != 0) {
            System.exit(1);
        }
    }

    private static void newObject() {
        MinuteBehind x = new MinuteBehind();
        due("1 houses", x.count(0), 4);
        for (int what = 1; what <= 7; what++) {
            due("1 count " + what, x.count(what), 0);
        }
        for (int h = 0; h < 4; h++) {
            due("1 off " + h, x.off(h), h);
            due("1 far " + h, x.far(0, h), h);
        }
        due("1 here", x.here(0), 0);
        due("1 time", x.here(1), 0);
        due("1 kept", x.back(0), NOT);
        due("1 kept", x.back(1), NOT);
    }

    private static void write() {
        MinuteBehind x = new MinuteBehind();
        due("2 n 0", x.write(0, 0), OUTSIDE);
        due("2 n 9", x.write(0, 9), OUTSIDE);
        due("2 n least", x.write(0, Integer.MIN_VALUE), OUTSIDE);
        due("2 n greatest", x.write(0, Integer.MAX_VALUE), OUTSIDE);
        due("2 one", x.write('t', 1), 1);
        due("2 more", x.write('i' | 'd' << 8 | 'y' << 16 | 'x' << 24, 3), 4);
        due("2 only n bytes", x.fault(), NONE);
        x.erase();
        for (int i = 1; i <= 24; i++) {
            due("2 eight", x.write(-1L, 8), 8 * i);
        }
        due("2 seven", x.write(-1L, 7), 199);
        due("2 full", x.write(-1L, 2), FULL);
        due("2 outside ahead of full", x.write(-1L, 9), OUTSIDE);
        due("2 unchanged", x.count(7), 199);
        due("2 last", x.write(-1L, 1), 200);
        due("2 full", x.write(-1L, 1), FULL);
        due("2 byte 255", x.fault(), 0);
    }

    private static void erase() {
        MinuteBehind x = new MinuteBehind();
        due("3 empty", x.erase(), 0);
        write(x, "street 9");
        due("3 had", x.erase(), 8);
        due("3 empty again", x.erase(), 0);
        due("3 count", x.count(7), 0);
        write(x, "tidy");
        due("3 anew", x.fault(), NONE);
    }

    private static void faultInWords() {
        faultDue("", 0);
        faultDue("   ", 3);
        faultDue("tidy", NONE);
        faultDue("tid", 0);
        faultDue("tidyy", 0);
        faultDue("tide", 0);
        faultDue("Tidy", 0);
        faultDue("tidY", 0);
        faultDue("  tidy  ", NONE);
        faultDue("tidy tidy", 5);
        faultDue("tidy 0", 5);
        faultDue("tidy.", 4);
        faultDue("tidy\t", 4);
        faultDue("7", 0);
        faultDue(";", 0);
        faultDue("tidy;", 5);
        faultDue("tidy;  ", 7);
        faultDue("tidy;;tidy", 5);
        faultDue("tidy ; tidy", NONE);
        faultDue("street", 6);
        faultDue("street ", 7);
        faultDue("street x", 7);
        faultDue("street ;", 7);
        faultDue("street -3", 7);
        faultDue("street 3x", 8);
        faultDue("street 3 3", 9);
        faultDue("street   3", NONE);
        faultDue("street 3;waz 0 1", 9);
        faultDue("\u00e9", 0);
        faultDue("\u0000", 0);
        faultDue("`", 0);
        faultDue("{", 0);
        faultDue("way 0 /", 6);
        faultDue("way 0 :", 6);
    }

    private static void faultInNumbers() {
        faultDue("street 1", 7);
        faultDue("street 2", NONE);
        faultDue("street 10", NONE);
        faultDue("street 11", 7);
        faultDue("street 0010", NONE);
        faultDue("street 00010", 7);
        faultDue("street 4294967298", 7);
        faultDue("street 99999999999999999999999", 7);
        faultDue("behind 0 1", 7);
        faultDue("behind 1 0", NONE);
        faultDue("behind 3 999", NONE);
        faultDue("behind 3 1000", 9);
        faultDue("behind 4 1", 7);
        faultDue("behind 1", 8);
        faultDue("way 0 1", NONE);
        faultDue("way 0 0", 6);
        faultDue("way 2 99", NONE);
        faultDue("way 2 100", 6);
        faultDue("way 3 1", 4);
        faultDue("wall 0 3 1", NONE);
        faultDue("wall 3 0 99", NONE);
        faultDue("wall 4 0 9", 5);
        faultDue("wall 0 4 9", 7);
        faultDue("wall 2 2 9", 7);
        faultDue("wall 0 1 0", 9);
        faultDue("wall 0 1 100", 9);
        faultDue("wall 0 1", 8);
    }

    private static void faultInPlaces() {
        faultDue("deed 3 1439 99", NONE);
        faultDue("deed 0 0 0", NONE);
        faultDue("deed 4 0 0", 5);
        faultDue("deed 0 1440 0", 7);
        faultDue("deed 0 0 100", 9);
        faultDue("deed 0 0", 8);
        faultDue("shop 3 0 1 0 0", NONE);
        faultDue("shop 0 1438 1439 99 99", NONE);
        faultDue("shop 4 0 1 0 0", 5);
        faultDue("shop 0 1440 1 0 0", 7);
        faultDue("shop 0 1439 1439 0 0", 12);
        faultDue("shop 0 6 5 0 0", 9);
        faultDue("shop 0 5 5 0 0", 9);
        faultDue("shop 0 5 1440 0 0", 9);
        faultDue("shop 0 5 6 100 0", 11);
        faultDue("shop 0 5 6 0 100", 13);
        faultDue("shop 0 5 6 0", 12);
        faultDue("street 2;behind 2 1", 16);
        faultDue("street 2;way 1 1", 13);
        faultDue("street 2;wall 0 2 1", 16);
        faultDue("street 2;deed 2 0 0", 14);
        faultDue("street 9;deed 8 0 0", NONE);
        faultDue("deed 8 0 0;street 9", 5);
        faultDue("tidy;tidy;tidy;tidy;tidy;tidy;tidy;tidy;tidy;tidy", NONE);
        faultDue("tidy;tidy;tidy;tidy;tidy;tidy;tidy;tidy;tidy;tidy;", 49);
        faultDue("tidy;tidy;tidy;tidy;tidy;tidy;tidy;tidy;tidy;tidy 3", 50);
    }

    private static void faultInCounts() {
        String wall = "wall 0 1 5;", deed = "deed 0 0 0;", shop = "shop 0 0 1 0 0;";
        faultDue(wall.repeat(8) + "tidy", NONE);
        faultDue(wall.repeat(8) + "wall x", 88);
        faultDue(wall.repeat(8) + "tidy;wall 0 1 5", 93);
        faultDue(wall.repeat(8) + "street 4;wall 0 1 5", NONE);
        faultDue(shop.repeat(6) + "tidy", NONE);
        faultDue(shop.repeat(6) + "shop 0 0 1 0 0", 90);
        faultDue(shop.repeat(6) + "tidy;shop 0 0 1 0 0", NONE);
        faultDue(shop.repeat(6) + "street 2;shop 0 0 1 0 0", NONE);
        faultDue(deed.repeat(9) + "deed 0 0 0", NONE);
        faultDue("street 4;" + wall.repeat(7) + "wall 0 1 5", NONE);
        faultDue("street 4;" + wall.repeat(8) + "wall 0 1 5", 97);
        faultDue("street 4;" + shop.repeat(5) + "shop 0 0 1 0 0", NONE);
        faultDue("street 4;" + shop.repeat(6) + "shop 0 0 1 0 0", 99);
        faultDue("tidy;" + shop.repeat(5) + "shop 0 0 1 0 0", NONE);
        faultDue("tidy;" + shop.repeat(6) + "shop 0 0 1 0 0", 95);
        MinuteBehind x = told(deed + "deed 0 0 0");
        faultDue(x, deed.repeat(8) + "tidy", NONE);
        faultDue(x, deed.repeat(8) + "deed 0 0 0", 88);
        faultDue(x, deed.repeat(8) + "tidy;deed 0 0 0", NONE);
        faultDue(x, deed.repeat(8) + "street 2;deed 0 0 0", NONE);
        MinuteBehind y = told(wall.repeat(7) + "wall 0 1 5");
        faultDue(y, "wall 0 1 5", 0);
        faultDue(y, "street 3;wall 0 1 5", NONE);
        MinuteBehind z = told(shop.repeat(5) + "shop 0 0 1 0 0");
        faultDue(z, " shop 0 0 1 0 0", 1);
        faultDue(z, "tidy;shop 0 0 1 0 0", NONE);
    }

    private static void street() {
        MinuteBehind x = new MinuteBehind();
        due("5 empty", x.street(), NOT);
        tell(x, "behind 1 20;way 0 7;wall 0 3 2;deed 0 1 1;shop 0 1 2 3 4");
        due("5 off", x.off(3), 22);
        due("5 text empty", x.count(7), 0);
        x.go(2);
        x.walk(1);
        x.bell(0, 0, 1, 0);
        x.seen(0, 0, 0);
        x.keep(0);
        x.keep(1);
        write(x, "tidy;stre");
        due("5 fault", x.street(), NOT);
        due("5 deed stays", x.count(2), 1);
        due("5 stands still", x.here(0), 2);
        due("5 kept still", x.back(0), x.here(1));
        due("5 walk still", x.count(4), 1);
        x.erase();
        tell(x, "behind 2 0");
        due("5 off", x.off(3), 21);
        due("5 far", x.far(0, 1), 4);
        due("5 at 0", x.here(0), 0);
        due("5 time 0", x.here(1), 0);
        due("5 not kept 0", x.back(0), NOT);
        due("5 not kept 1", x.back(1), NOT);
        due("5 shortcuts stay", x.count(1), 1);
        due("5 deeds stay", x.count(2), 1);
        due("5 shops stay", x.count(3), 1);
        for (int what = 4; what <= 7; what++) {
            due("5 none of " + what, x.count(what), 0);
        }
        tell(x, "tidy");
        due("5 tidy deeds", x.count(2), 0);
        due("5 tidy shops", x.count(3), 0);
        due("5 tidy shortcuts", x.count(1), 1);
        tell(x, "deed 0 1 1;shop 0 1 2 3 4;street 3");
        for (int what = 0; what <= 7; what++) {
            due("5 street 3 count " + what, x.count(what), what == 0 ? 3 : 0);
        }
        due("5 off as at first", x.off(2), 2);
        due("5 far as at first", x.far(0, 2), 2);
        tell(x, "behind 2 8;street 10;behind 9 8");
        due("5 off in order", x.off(9), 16);
        due("5 off in order", x.off(2), 2);
    }

    private static void off() {
        MinuteBehind x = told("street 10;behind 1 999;behind 5 999;behind 9 999");
        due("6 off 0", x.off(0), 0);
        due("6 off 1", x.off(1), 999);
        due("6 off 4", x.off(4), 1002);
        due("6 off 9", x.off(9), 3003);
        due("6 off 10", x.off(10), UNKNOWN);
        due("6 off -1", x.off(-1), UNKNOWN);
        due("6 off least", x.off(Integer.MIN_VALUE), UNKNOWN);
    }

    private static void far() {
        MinuteBehind x = told("street 6;way 0 50;way 1 99;way 4 7;wall 5 0 3;wall 0 5 9;wall 2 4 1");
        due("7 same", x.far(3, 3), 0);
        due("7 shortcut", x.far(0, 5), 3);
        due("7 and back", x.far(5, 0), 3);
        due("7 round", x.far(0, 2), 11);
        due("7 way", x.far(0, 1), 50);
        due("7 round to 1", x.far(1, 2), 61);
        due("7 unknown", x.far(6, 0), UNKNOWN);
        due("7 unknown", x.far(0, 6), UNKNOWN);
        due("7 unknown", x.far(-1, 0), UNKNOWN);
        due("7 unknown", x.far(0, -1), UNKNOWN);
    }

    private static void shows() {
        MinuteBehind x = told("street 10;behind 1 999;behind 2 999;behind 3 999;behind 4 999");
        due("8 clock", x.shows(1, 999, 0), 0);
        due("8 clock", x.shows(1, 998, 0), 1439);
        due("8 date", x.shows(1, 998, 1), 99);
        due("8 date", x.shows(1, 999, 1), 100);
        due("8 date", x.shows(1, 999 + 1440, 1), 101);
        due("8 clock", x.shows(4, 0, 0), 3 * 1440 - 3996);
        due("8 date", x.shows(4, 0, 1), 97);
        due("8 last", x.shows(0, 99999, 0), 99999 - 69 * 1440);
        due("8 what 2", x.shows(0, 0, 2), OUTSIDE);
        due("8 what -1", x.shows(0, 0, -1), OUTSIDE);
        due("8 time", x.shows(0, 100000, 0), OUTSIDE);
        due("8 time", x.shows(0, -1, 0), OUTSIDE);
        due("8 unknown first", x.shows(10, -1, 0), UNKNOWN);
        due("8 unknown", x.shows(-1, 0, 0), UNKNOWN);
    }

    private static void byClocks() {
        MinuteBehind x = told("street 3;behind 1 30;behind 2 0;way 0 5;way 1 6");
        due("9 on", x.byClocks(0, 1), 99975);
        due("9 back", x.byClocks(1, 0), 100035);
        due("9 like", x.byClocks(1, 2), 100006);
        due("9 two", x.byClocks(0, 2), 99981);
        due("9 same", x.byClocks(2, 2), 100000);
        due("9 unknown", x.byClocks(3, 0), UNKNOWN);
        due("9 unknown", x.byClocks(0, 3), UNKNOWN);
        due("9 unknown", x.byClocks(-1, 0), UNKNOWN);
    }

    private static void gaining() {
        MinuteBehind x = new MinuteBehind();
        due("10 none", x.gaining(0), 0);
        due("10 none", x.gaining(1), NONE);
        due("10 what", x.gaining(2), OUTSIDE);
        due("10 what", x.gaining(-1), OUTSIDE);
        tell(x, "behind 3 2;way 1 2;way 0 9");
        due("10 one", x.gaining(0), 1);
        due("10 which", x.gaining(1), 43);
        tell(x, "street 4;behind 1 5;behind 2 0;behind 3 5");
        due("10 four", x.gaining(0), 5);
        due("10 least", x.gaining(1), 3);
        tell(x, "street 4;behind 1 5;behind 2 0;behind 3 5;way 1 5");
        due("10 pairs", x.gaining(0), 3);
        due("10 first of like", x.gaining(1), 1);
    }

    private static void deed() {
        MinuteBehind x = told("behind 3 500;deed 3 1439 99;deed 0 0 0");
        due("11 house", x.deed(0, 0), 3);
        due("11 clock", x.deed(0, 1), 1439);
        due("11 long", x.deed(0, 2), 99);
        due("11 begin", x.deed(0, 3), 1941);
        due("11 begin", x.deed(1, 3), 0);
        due("11 what", x.deed(0, 4), OUTSIDE);
        due("11 what", x.deed(0, -1), OUTSIDE);
        due("11 unknown", x.deed(2, 4), UNKNOWN);
        due("11 unknown", x.deed(-1, 0), UNKNOWN);
        tell(x, "behind 3 0");
        due("11 begin anew", x.deed(0, 3), 1441);
    }

    private static void go() {
        MinuteBehind x = told("street 3;way 0 40;way 1 50");
        due("12 go", x.go(2), 90);
        due("12 there", x.go(2), NOT);
        due("12 unknown", x.go(3), UNKNOWN);
        due("12 unknown", x.go(-1), UNKNOWN);
        due("12 back", x.go(1), 140);
        for (int i = 0; i < 9; i++) {
            x.await(9999);
        }
        x.await(9818);
        due("12 time", x.here(1), 99949);
        due("12 full", x.go(2), 99999);
        due("12 at the end", x.go(1), FULL);
        due("12 there ahead of full", x.go(2), NOT);
        due("12 stays", x.here(0), 2);
        due("12 stays", x.here(1), 99999);
    }

    private static void await() {
        MinuteBehind x = new MinuteBehind();
        due("13 one", x.await(1), 1);
        due("13 many", x.await(9999), 10000);
        due("13 outside", x.await(0), OUTSIDE);
        due("13 outside", x.await(-1), OUTSIDE);
        due("13 outside", x.await(10000), OUTSIDE);
        due("13 outside", x.await(Integer.MAX_VALUE), OUTSIDE);
        for (int i = 2; i <= 9; i++) {
            due("13 on", x.await(9999), 9999 * i + 1);
        }
        due("13 on", x.await(9999), 99991);
        due("13 full", x.await(9), FULL);
        due("13 unchanged", x.here(1), 99991);
        due("13 place", x.here(0), 0);
        due("13 full", x.await(9999), FULL);
        due("13 outside ahead of full", x.await(10000), OUTSIDE);
        due("13 to the last", x.await(8), 99999);
        due("13 full", x.await(1), FULL);
    }

    private static void here() {
        MinuteBehind x = told("behind 1 999;behind 2 999");
        x.go(2);
        due("14 house", x.here(0), 2);
        due("14 time", x.here(1), 2);
        due("14 clock", x.here(2), 2880 + 2 - 1998);
        due("14 date", x.here(3), 98);
        x.await(1996);
        due("14 clock", x.here(2), 0);
        due("14 date", x.here(3), 100);
        due("14 what", x.here(4), OUTSIDE);
        due("14 what", x.here(-1), OUTSIDE);
    }

    private static void keepAndBack() {
        MinuteBehind x = new MinuteBehind();
        due("16 none", x.back(0), NOT);
        due("15 at first", x.keep(0), 0);
        x.go(2);
        due("15 later", x.keep(1), 2);
        x.await(10);
        due("16 first", x.back(0), 0);
        due("16 where", x.here(0), 0);
        due("16 second", x.back(1), 2);
        due("16 where", x.here(0), 2);
        due("16 again", x.back(1), 2);
        x.await(5);
        due("15 over it", x.keep(0), 7);
        x.go(0);
        due("16 over it", x.back(0), 7);
        due("16 where", x.here(0), 2);
        due("15 unknown", x.keep(2), UNKNOWN);
        due("15 unknown", x.keep(-1), UNKNOWN);
        due("16 unknown", x.back(2), UNKNOWN);
        due("16 unknown", x.back(-1), UNKNOWN);
        tell(x, "tidy");
        due("16 none behind a text", x.back(0), NOT);
        due("16 none behind a text", x.back(1), NOT);
        x.keep(1);
        due("16 the other", x.back(0), NOT);
        due("16 this one", x.back(1), 0);
    }

    private static void order() {
        MinuteBehind x = told("deed 0 5 0;deed 1 4 0;deed 2 0 0;deed 3 2 9;deed 0 4 0;deed 3 0 0");
        int[] due = {2, 5, 4, 0, 1, 3, NONE};
        for (int i = 0; i < due.length; i++) {
            due("17 order " + i, x.order(i), due[i]);
        }
        due("17 outside", x.order(-1), OUTSIDE);
        due("17 far off", x.order(Integer.MAX_VALUE), NONE);
        tell(x, "behind 3 100;tidy;deed 3 0 0;deed 0 102 0;deed 0 101 0");
        due("17 tidied", x.order(0), 2);
        due("17 tidied", x.order(1), 0);
        due("17 tidied", x.order(2), 1);
        due("17 tidied", x.order(3), NONE);
        tell(x, "behind 3 0");
        due("17 by new offs", x.order(0), 0);
        due("17 no deeds", new MinuteBehind().order(0), NONE);
    }

    private static void behind() {
        MinuteBehind x = told("way 0 5;deed 0 10 3;deed 1 17 0;deed 0 10 3;deed 1 16 0;deed 0 10 0;deed 0 10 0");
        due("18 just", x.behind(0, 1), 100000);
        due("18 not", x.behind(0, 3), NONE);
        due("18 not back", x.behind(1, 0), NONE);
        due("18 not itself", x.behind(4, 4), NONE);
        due("18 like ones", x.behind(4, 5), 100000);
        due("18 like ones by number", x.behind(5, 4), NONE);
        due("18 too long", x.behind(0, 2), NONE);
        due("18 left", x.behind(4, 1), 100003);
        due("18 unknown", x.behind(6, 0), UNKNOWN);
        due("18 unknown", x.behind(0, 6), UNKNOWN);
        due("18 unknown", x.behind(-1, 0), UNKNOWN);
    }

    private static void most() {
        MinuteBehind x = new MinuteBehind();
        due("19 none", x.most(NONE, NONE), 0);
        due("19 none", x.most(NONE, 0), NONE);
        due("19 unknown", x.most(0, NONE), UNKNOWN);
        due("19 outside", x.most(NONE, -2), OUTSIDE);
        tell(x, "deed 0 9 0;deed 0 5 9;deed 0 2 1;deed 0 2 1;deed 0 9 0;deed 0 1 99");
        due("19 many", x.most(NONE, NONE), 3);
        due("19 first", x.most(NONE, 0), 2);
        due("19 second", x.most(NONE, 1), 0);
        due("19 third", x.most(NONE, 2), 4);
        due("19 no fourth", x.most(NONE, 3), NONE);
        due("19 last 0", x.most(0, NONE), 2);
        due("19 last 0", x.most(0, 0), 2);
        due("19 last 0", x.most(0, 1), 0);
        due("19 last 0", x.most(0, 2), NONE);
        due("19 last 1", x.most(1, 1), 1);
        due("19 last 5", x.most(5, NONE), 1);
        due("19 last 5", x.most(5, 0), 5);
        due("19 far off", x.most(NONE, Integer.MAX_VALUE), NONE);
        due("19 unknown", x.most(6, NONE), UNKNOWN);
        due("19 unknown", x.most(-2, NONE), UNKNOWN);
        due("19 unknown ahead of outside", x.most(6, -2), UNKNOWN);
        due("19 outside", x.most(0, -2), OUTSIDE);
        tell(x, "tidy;way 0 9;deed 1 5 0;deed 0 6 0;deed 1 14 0;deed 0 5 2");
        due("19 rows by deeds", x.most(NONE, 0), 0);
        due("19 rows by deeds", x.most(NONE, 1), 2);
        due("19 rows by deeds", x.most(2, NONE), 2);
    }

    private static void walkAndRest() {
        MinuteBehind x = new MinuteBehind();
        due("21 empty", x.rest(), 0);
        for (int i = 1; i <= 12; i++) {
            due("20 walk " + i, x.walk(i % 4), i);
        }
        due("20 full", x.walk(0), FULL);
        due("20 unknown ahead of full", x.walk(4), UNKNOWN);
        due("20 unknown", x.walk(-1), UNKNOWN);
        due("20 count", x.count(4), 12);
        due("20 one does not go", x.here(1), 0);
        due("21 had", x.rest(), 12);
        due("21 empty", x.rest(), 0);
        due("20 anew", x.walk(3), 1);
    }

    private static void walked() {
        MinuteBehind x = told("street 3;behind 1 100;behind 2 0;way 0 10;way 1 20");
        due("22 empty", x.walked(0, 0), NOT);
        due("22 outside ahead of not", x.walked(0, 3), OUTSIDE);
        x.walk(0);
        due("22 alone", x.walked(9999, 0), 9999);
        due("22 alone", x.walked(1440, 1), 0);
        x.walk(1);
        due("22 end", x.walked(0, 0), 10);
        due("22 younger", x.walked(0, 2), 1);
        due("22 no taxes", x.walked(0, 1), 0);
        due("22 just not younger", x.walked(90, 2), 0);
        due("22 just younger", x.walked(89, 2), 1);
        due("22 neither", x.walked(1429, 1), 0);
        due("22 neither", x.walked(1429, 2), 0);
        x.walk(1);
        x.walk(1);
        due("22 waits", x.walked(0, 0), 12);
        due("22 waits into it", x.walked(89, 1), 1);
        due("22 waits into it", x.walked(88, 1), 1);
        due("22 waits short of it", x.walked(87, 1), 0);
        x.walk(0);
        due("22 back", x.walked(0, 1), 1);
        due("22 more than once", x.walked(88, 1), 1);
        x.walk(1);
        x.walk(0);
        due("22 taxes twice", x.walked(0, 1), 2);
        due("22 younger twice", x.walked(0, 2), 2);
        due("22 end", x.walked(0, 0), 42);
        due("22 time", x.walked(-1, 0), OUTSIDE);
        due("22 time", x.walked(10000, 0), OUTSIDE);
        due("22 what", x.walked(0, -1), OUTSIDE);
    }

    private static void trade() {
        MinuteBehind x = new MinuteBehind();
        due("23 no shops", x.trade(0, 0, 0), NONE);
        due("23 no shops", x.trade(0, 0, 3), NONE);
        due("23 unknown", x.trade(4, -1, 0), UNKNOWN);
        due("23 unknown", x.trade(-1, 0, 0), UNKNOWN);
        due("23 time", x.trade(0, -1, 0), OUTSIDE);
        due("23 time", x.trade(0, 10000, 0), OUTSIDE);
        due("23 what", x.trade(0, 0, 4), OUTSIDE);
        due("23 what", x.trade(0, 0, -1), OUTSIDE);
        tell(x, "shop 0 0 1439 5 5");
        due("23 no gain", x.trade(0, 0, 0), NONE);
        tell(x, "shop 0 0 1439 5 6");
        due("23 gain", x.trade(0, 0, 0), 1);
        due("23 least that sells", x.trade(0, 0, 1), 0);
        due("23 buys", x.trade(0, 0, 2), 1);
        due("23 at once", x.trade(0, 0, 3), 0);
        tell(x, "tidy;shop 0 0 1439 9 7;shop 1 0 1439 5 7;shop 2 0 1439 5 7;shop 3 0 1439 6 1");
        due("23 sells", x.trade(3, 10, 1), 1);
        due("23 least that buys", x.trade(3, 10, 2), 0);
        due("23 end", x.trade(3, 10, 3), 13);
        tell(x, "tidy;shop 2 0 1439 0 99");
        due("23 the same one", x.trade(0, 2, 2), 0);
        due("23 most", x.trade(0, 2, 0), 99);
        due("23 end", x.trade(0, 2, 3), 4);
        due("23 waits a minute", x.trade(0, 1439, 3), 1442);
        due("23 closes", x.trade(2, 1441, 3), 1442);
    }

    private static void tradeTimes() {
        MinuteBehind x = told("street 2;behind 1 0;shop 0 1 2 1 0;shop 1 0 1 9 9");
        due("23 all but too long", x.trade(0, 2, 3), 2 + 2878);
        MinuteBehind y = told("street 2;behind 1 0;shop 0 1 2 1 0;shop 1 1 2 9 9");
        due("23 just in time", y.trade(0, 1, 3), 1441);
        due("23 just in time", y.trade(0, 2, 0), 8);
        due("23 just in time", y.trade(0, 2, 3), 2881);
        MinuteBehind z = told("street 3;behind 1 0;behind 2 0;shop 1 1 2 1 0;shop 2 1 2 9 9");
        due("23 at the bound", z.trade(0, 1, 3), 2881);
        MinuteBehind v = told("street 3;behind 1 0;behind 2 0;shop 1 2 3 1 0;shop 2 2 3 9 9");
        due("23 at once", v.trade(0, 1, 3), 1442);
        due("23 too long", v.trade(0, 2, 0), 8);
        MinuteBehind w = told("street 3;behind 1 0;behind 2 0;shop 1 2 3 1 0;shop 2 3 4 9 9;shop 2 2 3 2 5");
        due("23 from there", w.trade(0, 1, 3), 3);
        MinuteBehind u = told("way 0 99;way 1 99;shop 0 0 1 0 0;shop 2 100 101 9 9");
        due("23 long way", u.trade(2, 0, 0), NONE);
        MinuteBehind t = told("street 3;behind 1 0;behind 2 0;way 0 90;way 1 90;shop 0 80 81 0 0;shop 2 169 170 9 9");
        due("23 too long", t.trade(2, 0, 0), NONE);
        due("23 not too long", t.trade(2, 1340, 0), 9);
        due("23 not too long", t.trade(2, 1340, 3), 1440 + 80 + 1440 + 89);
    }

    private static void bellAndHush() {
        MinuteBehind x = new MinuteBehind();
        due("25 none", x.hush(), 0);
        due("24 one", x.bell(0, 0, 3, 1439), 1);
        due("24 two", x.bell(3, 1439, 0, 0), 2);
        due("24 x", x.bell(0, 1440, 1, 0), OUTSIDE);
        due("24 x", x.bell(0, -1, 1, 0), OUTSIDE);
        due("24 y", x.bell(0, 0, 1, 1440), OUTSIDE);
        due("24 y", x.bell(0, 0, 1, -1), OUTSIDE);
        due("24 itself", x.bell(1, 0, 1, 0), OUTSIDE);
        due("24 unknown first", x.bell(4, -1, 4, -1), UNKNOWN);
        due("24 unknown", x.bell(-1, 0, 0, 0), UNKNOWN);
        due("24 unknown", x.bell(0, 0, 4, 0), UNKNOWN);
        for (int i = 3; i <= 10; i++) {
            due("24 bell " + i, x.bell(0, 5, 1, 4), i);
        }
        due("24 full", x.bell(0, 5, 1, 4), FULL);
        due("24 outside ahead of full", x.bell(0, 5, 0, 4), OUTSIDE);
        due("24 count", x.count(5), 10);
        due("25 had", x.hush(), 10);
        due("25 none", x.hush(), 0);
        due("24 anew", x.bell(0, 5, 1, 4), 1);
    }

    private static void wrong() {
        MinuteBehind x = told("street 6");
        due("26 none", x.wrong(0), 0);
        due("26 what", x.wrong(2), OUTSIDE);
        due("26 what", x.wrong(-1), OUTSIDE);
        x.bell(0, 0, 1, 1439);
        due("26 right", x.wrong(1), 0);
        x.bell(1, 0, 2, 0);
        due("26 one", x.wrong(0), 1);
        due("26 which", x.wrong(1), 4);
        x.bell(3, 0, 4, 0);
        due("26 two groups", x.wrong(0), 2);
        due("26 two groups", x.wrong(1), 12);
        x.bell(2, 100, 4, 98);
        due("26 joined", x.wrong(0), 2);
        due("26 joined", x.wrong(1), 20);
        x.bell(5, 3, 1, 7);
        due("26 all", x.wrong(1), 20);
        x.bell(5, 3, 1, 8);
        due("26 not even so", x.wrong(0), NONE);
        due("26 not even so", x.wrong(1), NONE);
        due("26 what ahead of none", x.wrong(2), OUTSIDE);
        x.hush();
        x.bell(0, 0, 5, 0);
        due("26 least set", x.wrong(1), 1);
        x.bell(1, 10, 5, 6);
        due("26 least set of two", x.wrong(1), 1);
        due("26 other numbers", x.hush(), 2);
        x.bell(0, 0, 1, 0);
        x.bell(1, 0, 2, 0);
        x.bell(2, 0, 0, 0);
        due("26 ring of three", x.wrong(0), 2);
        due("26 ring of three", x.wrong(1), 3);
    }

    private static void seenAndForget() {
        MinuteBehind x = new MinuteBehind();
        due("28 none", x.forget(), 0);
        due("27 one", x.seen(5, 3, 1439), 1);
        due("27 person", x.seen(6, 0, 0), UNKNOWN);
        due("27 person", x.seen(-1, 0, 1440), UNKNOWN);
        due("27 house", x.seen(0, 4, 1440), UNKNOWN);
        due("27 house", x.seen(0, -1, 0), UNKNOWN);
        due("27 c", x.seen(0, 0, 1440), OUTSIDE);
        due("27 c", x.seen(0, 0, -1), OUTSIDE);
        for (int i = 2; i <= 12; i++) {
            due("27 seen " + i, x.seen(0, 0, i), i);
        }
        due("27 full", x.seen(0, 0, 0), FULL);
        due("27 outside ahead of full", x.seen(0, 0, -1), OUTSIDE);
        due("27 count", x.count(6), 12);
        due("28 had", x.forget(), 12);
        due("28 none", x.forget(), 0);
        due("27 anew", x.seen(0, 0, 0), 1);
    }

    private static void liars() {
        MinuteBehind x = told("behind 3 100;way 2 20");
        due("29 none", x.liars(), 0);
        x.seen(0, 0, 150);
        x.seen(1, 3, 26);
        due("29 two people", x.liars(), 0);
        x.seen(0, 3, 26);
        due("29 just reached", x.liars(), 0);
        x.seen(1, 0, 150);
        due("29 just", x.liars(), 0);
        x.seen(1, 0, 107);
        due("29 just not", x.liars(), 2);
        x.seen(0, 1, 149);
        due("29 first two", x.liars(), 3);
        x.seen(5, 2, 7);
        x.seen(5, 2, 7);
        x.seen(5, 2, 8);
        due("29 same place", x.liars(), 3);
        x.seen(5, 1, 9);
        due("29 same time", x.liars(), 3 + 32);
        x.forget();
        due("29 forgotten", x.liars(), 0);
    }

    private static void canBe() {
        MinuteBehind x = told("behind 3 100;way 2 20");
        due("30 all", x.canBe(3, 0), 63);
        x.seen(2, 3, 500);
        due("30 there", x.canBe(3, 500), 63);
        due("30 then", x.canBe(0, 602), 59);
        due("30 just not", x.canBe(0, 581), 59);
        due("30 just", x.canBe(0, 580), 63);
        due("30 just not", x.canBe(0, 623), 59);
        due("30 just", x.canBe(0, 624), 63);
        x.seen(4, 0, 10);
        x.seen(4, 1, 9);
        due("30 no liars", x.canBe(0, 1000), 63 - 16);
        due("30 unknown", x.canBe(4, -1), UNKNOWN);
        due("30 unknown", x.canBe(-1, 0), UNKNOWN);
        due("30 c", x.canBe(0, -1), OUTSIDE);
        due("30 c", x.canBe(0, 1440), OUTSIDE);
        due("30 no sight more", x.count(6), 3);
    }

    private static void hang() {
        MinuteBehind x = told("street 5;behind 1 10;behind 2 0;behind 3 30;behind 4 5");
        due("31 no deeds", x.hang(0), NOT);
        due("31 what", x.hang(2), OUTSIDE);
        due("31 what", x.hang(-1), OUTSIDE);
        tell(x, "deed 2 1 1");
        due("31 least house", x.hang(0), 1);
        due("31 no change", x.hang(1), 0);
        tell(x, "deed 4 1 1");
        due("31 between", x.hang(0), 1);
        due("31 change", x.hang(1), 35);
        tell(x, "deed 4 9 1");
        due("31 most", x.hang(0), 4);
        due("31 change", x.hang(1), 35);
        tell(x, "deed 3 9 1;deed 0 1 1");
        due("31 middle", x.hang(0), 3);
        due("31 change", x.hang(1), 40 + 30 + 5 + 5);
    }

    private static void ring() {
        MinuteBehind x = new MinuteBehind();
        for (int k = 1; k <= 400; k++) {
            int m = 1;
            while (m * k % 1440 != 0) {
                m++;
            }
            due("32 ring " + k, x.ring(k), m);
        }
        due("32 day", x.ring(1440), 1);
        due("32 days", x.ring(8640), 1);
        due("32 last", x.ring(9999), 160);
        due("32 none", x.ring(0), OUTSIDE);
        due("32 below", x.ring(-1440), OUTSIDE);
        due("32 above", x.ring(10000), OUTSIDE);
    }

    private static void count() {
        MinuteBehind x = told("street 7;wall 0 1 1;deed 0 0 0;deed 0 0 0;shop 0 0 1 0 0;shop 0 0 1 0 0;shop 0 0 1 0 0");
        x.walk(0);
        x.walk(0);
        x.walk(0);
        x.walk(0);
        for (int i = 0; i < 5; i++) {
            x.bell(0, 0, 1, 0);
        }
        for (int i = 0; i < 6; i++) {
            x.seen(0, 0, 0);
        }
        x.write(0, 8);
        int[] due = {7, 1, 2, 3, 4, 5, 6, 8};
        for (int what = 0; what < 8; what++) {
            due("33 count " + what, x.count(what), due[what]);
        }
        due("33 what", x.count(8), OUTSIDE);
        due("33 what", x.count(-1), OUTSIDE);
    }
}
