/** Promise by promise: ordinary calls, the edges that the document names, wrong calls. All answers are worked out by hand. */
public final class PromisesTest {
    private static final int NONE = -1, UNKNOWN = -2, OUTSIDE = -3, NOT = -4, FULL = -5;

    /** Trails 0: 0-1 of 5, 1: 1-2 of 0, 2: 0-2 of 5; file 0 from 0 to 2 with 3; desk 3 without trails. */
    private static final String SMALL = "office 4;trail 0 1 5;trail 1 2 0;trail 0 2 5;file 0 2 3";

    private static int wrong = 0;
    private static int asked = 0;

    public static void main(String[] args) {
        end(promise1());
        end(promise2());
        end(promise3());
        end(promise4());
        end(promise4Bounds());
        end(promise5());
        end(promise5Reset());
        end(promise6());
        end(promise7());
        end(promise8());
        end(promise9());
        end(promise10());
        end(promise10Carrying());
        end(promise10Scent());
        end(promise10Kinds());
        end(promise11());
        end(promise12());
        end(promise13());
        end(promise14());
        end(promise15());
        end(promise16And17());
        end(promise18());
        end(promise19());
        end(promise20());
        end(promise21());
        end(promise21Refused());
        end(promise22());
        end(promise23());
        end(promise24And25());
        end(promise26And27());
        end(promise28());
        end(promise29And30());
        end(promise31());
        System.out.println(asked + " answers asked, " + wrong + " not as due");
        if (wrong != 0) System.exit(1);
    }

    private static void end(Due d) {
        wrong += d.wrong();
        asked += d.asked();
    }

    private static Due promise1() {
        Due d = new Due("1 a new object");
        SugarStamps x = new SugarStamps();
        int[] first = {2, 0, 0, 1, 0, 0, NONE, 0, 0, 0};
        for (int what = 0; what < first.length; what++) d.due("count(" + what + ")", x.count(what), first[what]);
        for (int desk = 0; desk < 2; desk++) {
            for (int what = 0; what < 3; what++) d.due("desk", x.desk(desk, what), 0);
        }
        d.due("trail(0, 0)", x.trail(0, 0), UNKNOWN);
        d.due("file(0, 0)", x.file(0, 0), UNKNOWN);
        d.due("NONE", SugarStamps.NONE, -1);
        d.due("UNKNOWN", SugarStamps.UNKNOWN, -2);
        d.due("OUTSIDE", SugarStamps.OUTSIDE, -3);
        d.due("NOT", SugarStamps.NOT, -4);
        d.due("FULL", SugarStamps.FULL, -5);
        return d;
    }

    private static Due promise2() {
        Due d = new Due("2 write");
        SugarStamps x = new SugarStamps();
        d.due("write(0, 0)", x.write(0, 0), OUTSIDE);
        d.due("write(0, 9)", x.write(0, 9), OUTSIDE);
        d.due("write(0, -1)", x.write(0, -1), OUTSIDE);
        d.due("write(0, MIN)", x.write(0, Integer.MIN_VALUE), OUTSIDE);
        d.due("count(9)", x.count(9), 0);
        // 'f' first, bytes behind the n-th are not taken.
        d.due("write fade", x.write(0x7F_65_64_61_66L, 4), 4);
        d.due("write 3", x.write(0x1133L, 1), 5);
        d.due("office()", x.office(), 1);
        d.due("count(3)", x.count(3), 3);
        d.due("write(-1, 8)", x.write(-1L, 8), 8);
        d.due("fault()", x.fault(), 0);
        for (int i = 2; i <= 24; i++) d.due("write", x.write(0x2020202020202020L, 8), 8 * i);
        d.due("write(7)", x.write(0, 7), 199);
        d.due("write(2)", x.write(0, 2), FULL);
        d.due("count(9)", x.count(9), 199);
        d.due("write(1)", x.write(0, 1), 200);
        d.due("write(1)", x.write(0, 1), FULL);
        d.due("write(0)", x.write(0, 0), OUTSIDE);
        d.due("write(8)", x.write(0, 8), FULL);
        d.due("erase()", x.erase(), 200);
        d.due("write(1)", x.write(0, 1), 1);
        return d;
    }

    private static Due promise3() {
        Due d = new Due("3 erase");
        SugarStamps x = new SugarStamps();
        d.due("erase()", x.erase(), 0);
        Due.write(x, "fade 7");
        d.due("erase()", x.erase(), 6);
        d.due("count(9)", x.count(9), 0);
        d.due("fault()", x.fault(), 0);
        d.due("count(3)", x.count(3), 1);
        return d;
    }

    private static void faultOf(Due d, String text, int want) {
        SugarStamps x = new SugarStamps();
        Due.write(x, text);
        d.due("fault() of '" + text + "'", x.fault(), want);
        d.due("count(9) of '" + text + "'", x.count(9), text.length());
        d.due("office() of '" + text + "'", x.office() == NOT ? 1 : 0, want == NONE ? 0 : 1);
    }

    private static Due promise4() {
        Due d = new Due("4 fault");
        faultOf(d, "", 0);
        faultOf(d, "   ", 3);
        faultOf(d, ";", 0);
        faultOf(d, ";plain 0", 0);
        faultOf(d, "plain", 5);
        faultOf(d, "plain  ", 7);
        faultOf(d, "plain 0", NONE);
        faultOf(d, "  plain  0  ", NONE);
        faultOf(d, "plain0", NONE);
        faultOf(d, "plain0;licks01;stamps00;cellar 1", NONE);
        faultOf(d, "plain 0;", 8);
        faultOf(d, "plain 0; ", 9);
        faultOf(d, "plain 0;;plain 1", 8);
        faultOf(d, "plain 0,plain 1", 7);
        faultOf(d, "plain 0 plain 1", 8);
        faultOf(d, "plain 0 1", 8);
        faultOf(d, "plain x", 6);
        faultOf(d, "plain ;", 6);
        faultOf(d, "plainx 0", 0);
        faultOf(d, "plai 0", 0);
        faultOf(d, "plainz 0", 0);
        faultOf(d, "aplain 0", 0);
        faultOf(d, "slain 0", 0);
        faultOf(d, "plais 0", 0);
        faultOf(d, "Plain 0", 0);
        faultOf(d, "plain 0;Plain 0", 8);
        faultOf(d, "plAin 0", 0);
        faultOf(d, "lick 0", 0);
        faultOf(d, "stamp 0", 0);
        faultOf(d, "0 plain", 0);
        faultOf(d, "plain\t0", 5);
        faultOf(d, "plain \u00e9", 6);
        faultOf(d, "plain 1\u0000", 7);
        faultOf(d, "trail 0 1", 9);
        faultOf(d, "trail 0", 7);
        faultOf(d, "trail 01 0 5", NONE);
        faultOf(d, "trail 01 5", 9);
        faultOf(d, "trail 0 1 5 6", 12);
        faultOf(d, "winter -1", 7);
        faultOf(d, "jam", 0);
        faultOf(d, "fade 1;jam", 7);
        faultOf(d, "office 2" + " ".repeat(192), NONE);
        return d;
    }

    private static Due promise4Bounds() {
        Due d = new Due("4 fault, bounds");
        faultOf(d, "office 1", 7);
        faultOf(d, "office 2", NONE);
        faultOf(d, "office 8", NONE);
        faultOf(d, "office 1;plain 0", 7);
        faultOf(d, "office 1;jam", 7);
        faultOf(d, "plain 2;jam", 6);
        faultOf(d, "fade 10;jam", 5);
        faultOf(d, "winter 100;jam", 7);
        faultOf(d, "trail 0 0 0;jam", 8);
        faultOf(d, "file 0 1 10;jam", 9);
        faultOf(d, "office 9", 7);
        faultOf(d, "office 08", NONE);
        faultOf(d, "office 008", 7);
        faultOf(d, "plain 2", 6);
        faultOf(d, "office 3;plain 2", NONE);
        faultOf(d, "office 3;plain 3", 15);
        faultOf(d, "office 3;office 2;cellar 2", 25);
        faultOf(d, "cellar 000", 7);
        faultOf(d, "trail 2 1 0", 6);
        faultOf(d, "trail 0 2 0", 8);
        faultOf(d, "trail 1 01 0", 8);
        faultOf(d, "trail 0 1 99", NONE);
        faultOf(d, "trail 0 1 100", 10);
        faultOf(d, "file 0 0 1", 7);
        faultOf(d, "file 2 0 1", 5);
        faultOf(d, "file 0 1 9", NONE);
        faultOf(d, "file 0 1 09", NONE);
        faultOf(d, "file 0 1 10", 9);
        faultOf(d, "fade 9", NONE);
        faultOf(d, "fade 10", 5);
        faultOf(d, "winter 99", NONE);
        faultOf(d, "winter 100", 7);
        faultOf(d, "winter 99999999999999999999", 7);
        String twelve = "fade 1" + ";fade 1".repeat(11);
        faultOf(d, twelve, NONE);
        faultOf(d, twelve + ";", 83);
        faultOf(d, twelve + " ;fade 1", 84);
        faultOf(d, twelve + "x", 83);
        SugarStamps x = Due.told("trail 0 1 1" + ";trail 1 0 2".repeat(11), "file 0 1 1" + ";file 1 0 1".repeat(5));
        Due.write(x, "fade 2;trail");
        d.due("fault() at a thirteenth trail", x.fault(), 7);
        x.erase();
        Due.write(x, "file 9");
        d.due("fault() at a seventh file", x.fault(), 0);
        x.erase();
        Due.write(x, "office 3;trail 0 2 1;file 2 0 1");
        d.due("fault() behind a new office", x.fault(), NONE);
        d.due("fault() again", x.fault(), NONE);
        d.due("count(1)", x.count(1), 12);
        // What a text with a fault would have told is not there for the next one.
        x = new SugarStamps();
        Due.write(x, "office 4;jam");
        d.due("fault()", x.fault(), 9);
        d.due("office()", x.office(), NOT);
        x.erase();
        Due.write(x, "plain 3");
        d.due("fault() of a desk that is not there", x.fault(), 6);
        x.erase();
        Due.write(x, "trail 0 1 5");
        d.due("fault()", x.fault(), NONE);
        d.due("office()", x.office(), 1);
        d.due("count(1), told once", x.count(1), 1);
        return d;
    }

    private static Due promise5() {
        Due d = new Due("5 office");
        SugarStamps x = new SugarStamps();
        d.due("office() without a text", x.office(), NOT);
        Due.write(x, "office 3;licks 0;fade 4;fade 5;jam 1");
        d.due("office() of a fault", x.office(), NOT);
        d.due("count(9)", x.count(9), 36);
        d.due("count(0)", x.count(0), 2);
        x.erase();
        Due.write(x, "office 3; licks 0;fade 4;fade 5;winter 2;licks 2;plain 0");
        d.due("office()", x.office(), 7);
        d.due("count(9)", x.count(9), 0);
        d.due("count(0)", x.count(0), 3);
        d.due("count(3)", x.count(3), 5);
        d.due("count(4)", x.count(4), 2);
        d.due("desk(0, 0)", x.desk(0, 0), 0);
        d.due("desk(2, 0)", x.desk(2, 0), 1);
        Due.write(x, "stamps 1;trail 0 2 7;file 1 0 8");
        d.due("office() more", x.office(), 3);
        d.due("count(0) stays", x.count(0), 3);
        d.due("count(3) stays", x.count(3), 5);
        d.due("count(4) stays", x.count(4), 2);
        d.due("desk(2, 0) stays", x.desk(2, 0), 1);
        d.due("desk(1, 0)", x.desk(1, 0), 2);
        d.due("trail(0, 2)", x.trail(0, 2), 7);
        d.due("file(0, 2)", x.file(0, 2), 8);
        Due.write(x, "office 4");
        d.due("office() anew", x.office(), 1);
        int[] due = {4, 0, 0, 1, 0};
        for (int what = 0; what < due.length; what++) d.due("count(" + what + ")", x.count(what), due[what]);
        for (int desk = 0; desk < 4; desk++) d.due("desk(" + desk + ", 0)", x.desk(desk, 0), 0);
        return d;
    }

    private static Due promise5Reset() {
        Due d = new Due("5 office, as told");
        SugarStamps x = Due.told(SMALL, "file 1 2 4;winter 1");
        x.go(4);
        x.spill(2, 80);
        x.sit(1);
        x.keep(0);
        x.keep(1);
        x.seen(0, 0, 0);
        x.crumbs(1, 9);
        d.due("count(7)", x.count(7), 3);
        Due.tell(x, "file 0 3 2");
        d.due("count(4)", x.count(4), 1);
        d.due("count(5)", x.count(5), 0);
        d.due("count(6)", x.count(6), NONE);
        d.due("count(7)", x.count(7), 0);
        d.due("count(8)", x.count(8), 0);
        d.due("back(0)", x.back(0), NOT);
        d.due("back(1)", x.back(1), NOT);
        d.due("odds(1, 0)", x.odds(1, 0), NOT);
        d.due("trail(2, 2)", x.trail(2, 2), 5);
        int[] file0 = {0, 2, 3, NONE, NONE};
        for (int what = 0; what < file0.length; what++) d.due("file(0, " + what + ")", x.file(0, what), file0[what]);
        d.due("desk(0, 1)", x.desk(0, 1), 0b101);
        return d;
    }

    private static Due promise6() {
        Due d = new Due("6 desk");
        SugarStamps x = Due.told(SMALL, "licks 1;stamps 2;cellar 3;file 1 0 0");
        int[] kinds = {0, 1, 2, 3};
        int[] files = {1, 2, 0, 0};
        int[] trails = {2, 2, 2, 0};
        for (int desk = 0; desk < 4; desk++) {
            d.due("desk(" + desk + ", 0)", x.desk(desk, 0), kinds[desk]);
            d.due("desk(" + desk + ", 1)", x.desk(desk, 1), files[desk]);
            d.due("desk(" + desk + ", 2)", x.desk(desk, 2), trails[desk]);
        }
        d.due("desk(4, 0)", x.desk(4, 0), UNKNOWN);
        d.due("desk(-1, 0)", x.desk(-1, 0), UNKNOWN);
        d.due("desk(4, 9)", x.desk(4, 9), UNKNOWN);
        d.due("desk(0, 3)", x.desk(0, 3), OUTSIDE);
        d.due("desk(0, -1)", x.desk(0, -1), OUTSIDE);
        x.go(2);
        // Filed or not, a file is at its desk.
        d.due("desk(2, 1)", x.desk(2, 1), 1);
        d.due("desk(0, 1)", x.desk(0, 1), 0);
        return d;
    }

    private static Due promise7() {
        Due d = new Due("7 trail");
        SugarStamps x = Due.told(SMALL, "trail 3 1 99");
        d.due("trail(0, 0)", x.trail(0, 0), 0);
        d.due("trail(0, 1)", x.trail(0, 1), 1);
        d.due("trail(0, 2)", x.trail(0, 2), 5);
        d.due("trail(3, 0)", x.trail(3, 0), 3);
        d.due("trail(3, 1)", x.trail(3, 1), 1);
        d.due("trail(3, 2)", x.trail(3, 2), 99);
        d.due("trail(4, 0)", x.trail(4, 0), UNKNOWN);
        d.due("trail(-1, 7)", x.trail(-1, 7), UNKNOWN);
        d.due("trail(0, 3)", x.trail(0, 3), OUTSIDE);
        d.due("trail(0, -1)", x.trail(0, -1), OUTSIDE);
        return d;
    }

    private static Due promise8() {
        Due d = new Due("8 file");
        SugarStamps x = Due.told(SMALL);
        int[][] rows = {{0, 2, 3, NONE, NONE}, {1, 2, 3, 0, NONE}, {2, 2, 3, 1, 1}, {2, 2, 3, 1, 1}};
        for (int minute = 0; minute < rows.length; minute++) {
            for (int what = 0; what < 5; what++) {
                d.due("file(0, " + what + ") in minute " + minute, x.file(0, what), rows[minute][what]);
            }
            x.go(1);
        }
        d.due("file(1, 0)", x.file(1, 0), UNKNOWN);
        d.due("file(-1, 9)", x.file(-1, 9), UNKNOWN);
        d.due("file(0, 5)", x.file(0, 5), OUTSIDE);
        d.due("file(0, -1)", x.file(0, -1), OUTSIDE);
        return d;
    }

    private static Due promise9() {
        Due d = new Due("9 as");
        SugarStamps x = Due.told("office 4;licks 1;stamps 2;cellar 3");
        int[][] due = {{5, 5, NOT, NOT, NOT}, {4, 4, 4, NOT, NOT}, {6, 6, NOT, 6, NOT}, {5, NOT, NOT, NOT, 5}};
        for (int desk = 0; desk < 4; desk++) {
            for (int kind = 0; kind < 5; kind++) {
                d.due("as(" + desk + ", " + kind + ")", x.as(desk, kind), due[desk][kind]);
            }
        }
        d.due("as(0, 5)", x.as(0, 5), OUTSIDE);
        d.due("as(0, -1)", x.as(0, -1), OUTSIDE);
        d.due("as(4, 5)", x.as(4, 5), UNKNOWN);
        d.due("as(-1, 0)", x.as(-1, 0), UNKNOWN);
        return d;
    }

    private static Due promise10() {
        Due d = new Due("10 go");
        SugarStamps x = Due.told(SMALL);
        d.due("go(0)", x.go(0), OUTSIDE);
        d.due("go(100)", x.go(100), OUTSIDE);
        d.due("go(-5)", x.go(-5), OUTSIDE);
        d.due("count(5)", x.count(5), 0);
        for (int i = 1; i <= 101; i++) d.due("go(99)", x.go(99), 99 * i);
        d.due("go(1)", x.go(1), FULL);
        d.due("go(99)", x.go(99), FULL);
        d.due("go(100)", x.go(100), OUTSIDE);
        d.due("count(5)", x.count(5), 9999);
        x = Due.told(SMALL);
        for (int i = 1; i <= 100; i++) x.go(99);
        d.due("go(98)", x.go(98), 9998);
        d.due("go(2)", x.go(2), FULL);
        d.due("go(1)", x.go(1), 9999);
        return d;
    }

    private static Due promise10Carrying() {
        Due d = new Due("10 go, who is carried");
        // Of like sweetness the least file; one that goes at a time; one without sweetness stays.
        SugarStamps x = Due.told("trail 0 1 0;file 0 1 2;file 0 1 4;file 0 1 4;file 0 1 0");
        x.go(1);
        d.due("count(7)", x.count(7), 0b0010);
        x.go(1);
        d.due("count(7)", x.count(7), 0b0110);
        x.go(1);
        d.due("count(7)", x.count(7), 0b0111);
        x.go(9);
        d.due("count(7)", x.count(7), 0b0111);
        d.due("file(0, 4)", x.file(0, 4), 2);
        d.due("file(3, 0)", x.file(3, 0), 0);
        // All at once: two change places by one trail.
        x = Due.told("office 3;trail 0 1 0;trail 1 2 0;file 0 2 2;file 1 0 4");
        x.go(1);
        d.due("file(0, 0)", x.file(0, 0), 1);
        d.due("file(1, 4)", x.file(1, 4), 0);
        d.due("trail(0, 2)", x.trail(0, 2), 5);
        // The only trail takes a file back.
        x = Due.told("office 3;trail 0 1 0;file 0 2 2");
        x.go(3);
        d.due("file(0, 0)", x.file(0, 0), 1);
        d.due("file(0, 3)", x.file(0, 3), 0);
        // A like trail beside it does also when it smells less.
        x = Due.told("office 3;trail 0 1 50;trail 1 0 3;file 0 2 2");
        x.go(1);
        d.due("next(0)", x.next(0), 1);
        x.go(1);
        d.due("file(0, 3)", x.file(0, 3), 1);
        d.due("next(0)", x.next(0), 0);
        // Nothing leaves a cellar, a desk with the queen, a desk without a trail; files come to the first two.
        x = Due.told("office 5;cellar 1;trail 0 1 9;trail 1 2 9;trail 3 2 1;file 0 2 5;file 3 1 5;file 4 0 5");
        x.sit(2);
        x.go(7);
        d.due("file(0, 0)", x.file(0, 0), 1);
        d.due("file(1, 0)", x.file(1, 0), 2);
        d.due("file(2, 0)", x.file(2, 0), 4);
        d.due("count(7)", x.count(7), 0);
        return d;
    }

    private static Due promise10Scent() {
        Due d = new Due("10 go, scent and winter");
        SugarStamps x = Due.told("fade 2;trail 0 1 97;trail 0 1 1;file 0 1 9");
        x.go(1);
        d.due("trail(0, 2)", x.trail(0, 2), 97);
        d.due("trail(1, 2)", x.trail(1, 2), 0);
        x.go(1);
        d.due("trail(0, 2)", x.trail(0, 2), 95);
        d.due("trail(1, 2)", x.trail(1, 2), 0);
        x = Due.told("fade 3;winter 2;trail 0 1 8;file 0 1 9");
        x.go(1);
        d.due("count(4)", x.count(4), 1);
        d.due("trail(0, 2)", x.trail(0, 2), 5);
        d.due("file(0, 0)", x.file(0, 0), 0);
        x.go(1);
        d.due("count(4)", x.count(4), 0);
        d.due("trail(0, 2)", x.trail(0, 2), 2);
        d.due("file(0, 4)", x.file(0, 4), NONE);
        x.go(1);
        d.due("file(0, 4)", x.file(0, 4), 2);
        d.due("trail(0, 2)", x.trail(0, 2), 8);
        // Both of the trail's ends give to it, what they had before they came.
        x = Due.told("office 3;fade 0;licks 0;stamps 1;trail 0 1 10;file 0 2 3;file 1 2 4");
        x.go(1);
        d.due("trail(0, 2)", x.trail(0, 2), 17);
        d.due("file(0, 2)", x.file(0, 2), 4);
        d.due("file(1, 2)", x.file(1, 2), 3);
        // 99 at most ahead of fading, also where two give.
        x = Due.told("fade 5;trail 0 1 98;file 0 1 9;file 1 0 9");
        x.go(1);
        d.due("trail(0, 2)", x.trail(0, 2), 94);
        return d;
    }

    private static Due promise10Kinds() {
        Due d = new Due("10 go, kinds");
        SugarStamps x = Due.told("office 3;licks 0;licks 1;trail 0 1 0;file 0 2 3");
        for (int left = 2; left >= 0; left--) {
            x.go(1);
            d.due("file(0, 2)", x.file(0, 2), left);
        }
        d.due("file(0, 0)", x.file(0, 0), 1);
        x.go(5);
        d.due("file(0, 0)", x.file(0, 0), 1);
        d.due("file(0, 2)", x.file(0, 2), 0);
        x = Due.told("office 3;stamps 1;trail 0 1 0;file 0 1 8;file 0 1 9");
        x.go(2);
        d.due("file(0, 2)", x.file(0, 2), 9);
        d.due("file(1, 2)", x.file(1, 2), 9);
        d.due("count(7)", x.count(7), 3);
        x = Due.told("office 3;cellar 1;trail 0 1 0;file 0 1 8");
        x.go(1);
        d.due("file(0, 2)", x.file(0, 2), 8);
        d.due("count(7)", x.count(7), 1);
        return d;
    }

    private static Due promise11() {
        Due d = new Due("11 next");
        SugarStamps x = Due.told(SMALL, "file 0 3 2;file 2 0 0;file 3 0 5");
        d.due("next(0), of like scents the least", x.next(0), 0);
        d.due("next(1), less sweet", x.next(1), NONE);
        d.due("next(2), not sweet", x.next(2), NONE);
        d.due("next(3), no trail", x.next(3), NONE);
        d.due("next(4)", x.next(4), UNKNOWN);
        d.due("next(-1)", x.next(-1), UNKNOWN);
        x.spill(2, 6);
        d.due("next(0), by scent", x.next(0), 2);
        x.sit(0);
        d.due("next(0), the queen", x.next(0), NONE);
        x.sit(NONE);
        x.go(1);
        d.due("next(0), filed", x.next(0), NONE);
        d.due("next(1)", x.next(1), 2);
        Due.tell(x, "winter 1");
        d.due("next(0), winter", x.next(0), NONE);
        x.go(1);
        d.due("next(0), behind it", x.next(0), 0);
        Due.tell(x, "winter 0;cellar 0");
        d.due("next(0), cellar", x.next(0), NONE);
        return d;
    }

    private static Due promise12() {
        Due d = new Due("12 spill");
        SugarStamps x = Due.told(SMALL);
        d.due("spill(0, 99)", x.spill(0, 99), 5);
        d.due("spill(0, 0)", x.spill(0, 0), 99);
        d.due("spill(0, 100)", x.spill(0, 100), OUTSIDE);
        d.due("spill(0, -1)", x.spill(0, -1), OUTSIDE);
        d.due("spill(3, 100)", x.spill(3, 100), UNKNOWN);
        d.due("spill(-1, 0)", x.spill(-1, 0), UNKNOWN);
        d.due("trail(0, 2)", x.trail(0, 2), 0);
        return d;
    }

    private static Due promise13() {
        Due d = new Due("13 stamp");
        SugarStamps x = Due.told(SMALL);
        d.due("stamp(0, 9)", x.stamp(0, 9), 3);
        d.due("stamp(0, 0)", x.stamp(0, 0), 9);
        d.due("stamp(0, 10)", x.stamp(0, 10), OUTSIDE);
        d.due("stamp(0, -1)", x.stamp(0, -1), OUTSIDE);
        d.due("stamp(1, 10)", x.stamp(1, 10), UNKNOWN);
        d.due("stamp(-1, 0)", x.stamp(-1, 0), UNKNOWN);
        x.go(3);
        d.due("file(0, 0)", x.file(0, 0), 0);
        d.due("stamp(0, 1)", x.stamp(0, 1), 0);
        x.go(2);
        d.due("stamp(0, 4)", x.stamp(0, 4), NOT);
        d.due("stamp(0, 10)", x.stamp(0, 10), OUTSIDE);
        d.due("file(0, 2)", x.file(0, 2), 1);
        return d;
    }

    private static Due promise14() {
        Due d = new Due("14 rain");
        SugarStamps x = Due.told("trail 0 1 99;trail 0 1 3;trail 0 1 1;trail 0 1 0;trail 0 1 2");
        d.due("rain()", x.rain(), 3);
        int[] half = {49, 1, 0, 0, 1};
        for (int t = 0; t < half.length; t++) d.due("trail(" + t + ", 2)", x.trail(t, 2), half[t]);
        d.due("rain()", x.rain(), 1);
        d.due("trail(0, 2)", x.trail(0, 2), 24);
        d.due("rain() on no trails", new SugarStamps().rain(), 0);
        return d;
    }

    private static Due promise15() {
        Due d = new Due("15 sit");
        SugarStamps x = Due.told(SMALL);
        d.due("sit(3)", x.sit(3), NONE);
        d.due("sit(4)", x.sit(4), UNKNOWN);
        d.due("sit(-2)", x.sit(-2), UNKNOWN);
        d.due("count(6)", x.count(6), 3);
        d.due("sit(0)", x.sit(0), 3);
        x.go(1);
        d.due("file(0, 0)", x.file(0, 0), 0);
        d.due("sit(NONE)", x.sit(NONE), 0);
        d.due("sit(NONE)", x.sit(NONE), NONE);
        x.go(1);
        d.due("file(0, 0)", x.file(0, 0), 1);
        return d;
    }

    private static Due promise16And17() {
        Due d = new Due("16 keep, 17 back");
        SugarStamps x = Due.told(SMALL, "winter 2");
        d.due("keep(-1)", x.keep(-1), UNKNOWN);
        d.due("keep(2)", x.keep(2), UNKNOWN);
        d.due("back(-1)", x.back(-1), UNKNOWN);
        d.due("back(2)", x.back(2), UNKNOWN);
        d.due("back(0)", x.back(0), NOT);
        x.go(1);
        d.due("keep(0)", x.keep(0), 1);
        d.due("back(1)", x.back(1), NOT);
        x.go(3);
        x.sit(1);
        d.due("keep(1)", x.keep(1), 4);
        x.spill(0, 77);
        x.sit(NONE);
        Due.write(x, "fade 4");
        d.due("back(0)", x.back(0), 1);
        d.due("count(4)", x.count(4), 1);
        d.due("count(5)", x.count(5), 1);
        d.due("count(6)", x.count(6), NONE);
        d.due("count(9), the text stays", x.count(9), 6);
        d.due("trail(0, 2)", x.trail(0, 2), 4);
        d.due("file(0, 4)", x.file(0, 4), NONE);
        d.due("file(0, 3)", x.file(0, 3), NONE);
        d.due("back(1)", x.back(1), 4);
        d.due("count(6)", x.count(6), 1);
        d.due("file(0, 4)", x.file(0, 4), 3);
        d.due("count(7)", x.count(7), 1);
        d.due("file(0, 3)", x.file(0, 3), 1);
        d.due("trail(0, 2)", x.trail(0, 2), 4);
        d.due("stamp(0, 1)", x.stamp(0, 1), NOT);
        d.due("back(0) again", x.back(0), 1);
        d.due("stamp(0, 1)", x.stamp(0, 1), 3);
        d.due("back(0) undoes it", x.back(0), 1);
        d.due("file(0, 2)", x.file(0, 2), 3);
        x.go(5);
        d.due("keep(0) anew", x.keep(0), 6);
        x.go(1);
        d.due("back(0)", x.back(0), 6);
        d.due("office()", x.office(), 1);
        d.due("back(0)", x.back(0), NOT);
        d.due("back(1)", x.back(1), NOT);
        // A text with a fault is none: what was kept stays.
        x.keep(0);
        Due.write(x, "jam");
        d.due("office()", x.office(), NOT);
        d.due("back(0)", x.back(0), 0);
        return d;
    }

    private static Due promise18() {
        Due d = new Due("18 later");
        SugarStamps x = Due.told(SMALL, "stamps 1");
        int[] desks = {0, 1, 2, 2};
        int[] sweet = {3, 4, 4, 4};
        int[] scents = {5, 7, 6, 5};
        for (int t = 0; t < 4; t++) {
            d.due("later(0, " + t + ", 0)", x.later(0, t, 0), desks[t]);
            d.due("later(0, " + t + ", 1)", x.later(0, t, 1), sweet[t]);
            d.due("later(0, " + t + ", 2)", x.later(0, t, 2), scents[t]);
        }
        d.due("later(1, 2, 2)", x.later(1, 2, 2), 3);
        d.due("later(0, 99, 2)", x.later(0, 99, 2), 0);
        d.due("count(5), nothing changes", x.count(5), 0);
        d.due("file(0, 0), nothing changes", x.file(0, 0), 0);
        d.due("trail(0, 2), nothing changes", x.trail(0, 2), 5);
        d.due("later(0, 100, 0)", x.later(0, 100, 0), OUTSIDE);
        d.due("later(0, -1, 2)", x.later(0, -1, 2), OUTSIDE);
        d.due("later(9, 0, 3)", x.later(9, 0, 3), OUTSIDE);
        d.due("later(9, 0, -1)", x.later(9, 0, -1), OUTSIDE);
        d.due("later(1, 100, 0)", x.later(1, 100, 0), UNKNOWN);
        d.due("later(1, 0, 1)", x.later(1, 0, 1), UNKNOWN);
        d.due("later(2, 0, 2)", x.later(2, 0, 2), 5);
        d.due("later(3, 100, 2)", x.later(3, 100, 2), UNKNOWN);
        d.due("later(-1, 0, 0)", x.later(-1, 0, 0), UNKNOWN);
        x.sit(0);
        d.due("later(0, 9, 0), the queen", x.later(0, 9, 0), 0);
        return d;
    }

    private static Due promise19() {
        Due d = new Due("19 filed");
        SugarStamps x = Due.told(SMALL, "file 3 0 4;winter 97;file 0 1 2");
        d.due("filed(0)", x.filed(0), 98);
        d.due("filed(1)", x.filed(1), NONE);
        d.due("filed(2)", x.filed(2), 98);
        d.due("filed(3)", x.filed(3), UNKNOWN);
        d.due("filed(-1)", x.filed(-1), UNKNOWN);
        x.go(98);
        d.due("filed(0)", x.filed(0), 98);
        x.go(1);
        d.due("filed(0)", x.filed(0), 98);
        x.go(99);
        d.due("filed(0), as it was", x.filed(0), 98);
        // Files of like sweetness leave one by one, so file 5 is filed in minute 5.
        x = Due.told("trail 0 1 0;file 0 1 1" + ";file 0 1 1".repeat(5));
        d.due("filed(5)", x.filed(5), 5);
        x.sit(0);
        d.due("filed(5), the queen", x.filed(5), NONE);
        x = Due.told("trail 0 1 0;file 0 1 1;file 0 1 2");
        d.due("filed(0), behind file 1", x.filed(0), 1);
        d.due("filed(1), ahead of file 0", x.filed(1), 0);
        x = Due.told("winter 99;trail 0 1 0;file 0 1 1" + ";file 0 1 1".repeat(5));
        d.due("filed(5), behind a winter", x.filed(5), 104);
        x.go(99);
        d.due("filed(5), of all minutes", x.filed(5), 104);
        // Round and round, each trail loses 1 in 3 minutes, until trail 0 smells as little as trail 1: behind 66 rounds.
        String rounds = "office 4;trail 0 3 0;trail 0 1 67;trail 1 2 67;trail 2 0 67;file 0 3 2;winter 1";
        d.due("filed(0), in the 200th minute", Due.told(rounds).filed(0), 199);
        x = Due.told(rounds.replace("67", "68").replace("winter 1", "winter 2"));
        d.due("filed(0), in the 201st minute", x.filed(0), NONE);
        x.go(1);
        d.due("filed(0), in the 200th from now", x.filed(0), 200);
        return d;
    }

    private static Due promise20() {
        Due d = new Due("20 queue");
        SugarStamps x = Due.told("office 3;trail 0 1 0;trail 1 2 0;file 0 2 3;file 0 2 3;file 0 1 3;file 1 0 0");
        int[][] due = {{3, 1, 0}, {2, 2, 0}, {1, 2, 0}, {0, 2, 0}, {0, 1, 0}};
        for (int t = 0; t < 3; t++) {
            for (int desk = 0; desk < 3; desk++) {
                d.due("queue(" + desk + ", " + t + ")", x.queue(desk, t), due[t][desk]);
            }
        }
        // File 2 is filed at desk 1 in minute 2, file 3 stays there unfiled.
        d.due("queue(1, 3)", x.queue(1, 3), 1);
        d.due("queue(0, 3)", x.queue(0, 3), 0);
        d.due("queue(1, 99)", x.queue(1, 99), 1);
        d.due("queue(0, 100)", x.queue(0, 100), OUTSIDE);
        d.due("queue(0, -1)", x.queue(0, -1), OUTSIDE);
        d.due("queue(3, 100)", x.queue(3, 100), UNKNOWN);
        d.due("queue(-1, 0)", x.queue(-1, 0), UNKNOWN);
        return d;
    }

    private static Due promise21() {
        Due d = new Due("21 honey");
        // One goes in a minute, the sweetest first.
        SugarStamps x = Due.told("trail 0 1 0;file 0 1 5;file 0 1 5;file 0 1 2;file 0 1 0");
        d.due("honey(1, 1, NONE)", x.honey(1, 1, NONE), 0);
        d.due("honey(1, 1, 0)", x.honey(1, 1, 0), 0);
        d.due("honey(1, 1, 1)", x.honey(1, 1, 1), NONE);
        d.due("honey(2, 1, NONE)", x.honey(2, 1, NONE), 1);
        d.due("honey(2, 1, 0)", x.honey(2, 1, 0), 1);
        d.due("honey(4, 1, NONE)", x.honey(4, 1, NONE), 4);
        d.due("honey(4, 2, NONE)", x.honey(4, 2, NONE), 4);
        d.due("honey(4, 3, NONE)", x.honey(4, 3, NONE), 0);
        d.due("honey(3, 1, NONE)", x.honey(3, 1, NONE), NONE);
        d.due("honey(3, 1, 0)", x.honey(3, 1, 0), NONE);
        d.due("honey(6, 2, NONE)", x.honey(6, 2, NONE), 5);
        d.due("honey(6, 2, 0)", x.honey(6, 2, 0), 1);
        d.due("honey(6, 2, 1)", x.honey(6, 2, 1), 4);
        d.due("honey(6, 2, 2)", x.honey(6, 2, 2), NONE);
        d.due("honey(8, 60, NONE)", x.honey(8, 60, NONE), 1);
        d.due("honey(15, 4, NONE)", x.honey(15, 4, NONE), 1);
        d.due("honey(15, 4, 3)", x.honey(15, 4, 3), 1);
        d.due("honey(15, 4, 0)", x.honey(15, 4, 0), 0);
        d.due("honey(15, 4, 4)", x.honey(15, 4, 4), NONE);
        d.due("honey(15, 3, NONE)", x.honey(15, 3, NONE), NONE);
        d.due("file(3, 2), nothing changes", x.file(3, 2), 0);
        // Each 9 at most: nobody gets ahead of one that has 9.
        x = Due.told("trail 0 1 0;file 0 1 9;file 0 1 9");
        d.due("honey(2, 1, NONE)", x.honey(2, 1, NONE), NONE);
        d.due("honey(2, 2, NONE)", x.honey(2, 2, NONE), 0);
        d.due("honey(0, 1, NONE)", x.honey(0, 1, NONE), 0);
        d.due("honey(0, 1, 0)", x.honey(0, 1, 0), NONE);
        // Two rows of one sum: the least file gets less.
        x = Due.told("office 3;trail 0 1 0;trail 1 2 0;trail 2 0 99;licks 1;file 1 2 0;file 0 2 0");
        d.due("honey(3, 2, NONE)", x.honey(3, 2, NONE), 2);
        d.due("honey(3, 2, 0)", x.honey(3, 2, 0), 1);
        d.due("honey(3, 2, 1)", x.honey(3, 2, 1), 1);
        x.sit(0);
        d.due("honey(2, 9, NONE), the queen", x.honey(2, 9, NONE), NONE);
        x = Due.told(SMALL);
        d.due("honey(1, 2, NONE), by trails with scent", x.honey(1, 2, NONE), 0);
        d.due("honey(1, 1, NONE), by the wrong way", x.honey(1, 1, NONE), NONE);
        x = Due.told("winter 3;trail 0 1 0;file 0 1 1");
        d.due("honey(1, 3, NONE), winter", x.honey(1, 3, NONE), NONE);
        d.due("honey(1, 4, NONE), winter", x.honey(1, 4, NONE), 0);
        x.go(4);
        d.due("honey(1, 4, NONE), filed", x.honey(1, 4, NONE), NOT);
        return d;
    }

    private static Due promise21Refused() {
        Due d = new Due("21 honey, refused");
        SugarStamps x = Due.told("trail 0 1 0;file 0 1 5" + ";file 0 1 5".repeat(4));
        d.due("honey(32, 0, 0)", x.honey(32, 0, 0), UNKNOWN);
        d.due("honey(-1, 1, 0)", x.honey(-1, 1, 0), UNKNOWN);
        d.due("honey(MIN, 1, 0)", x.honey(Integer.MIN_VALUE, 1, 0), UNKNOWN);
        d.due("honey(31, 0, 0)", x.honey(31, 0, 0), OUTSIDE);
        d.due("honey(31, 61, 0)", x.honey(31, 61, 0), OUTSIDE);
        d.due("honey(31, 1, -2)", x.honey(31, 1, -2), OUTSIDE);
        d.due("honey(31, 60, 9)", x.honey(31, 60, 9), NOT);
        d.due("honey(30, 60, 9)", x.honey(30, 60, 9), NONE);
        d.due("honey(30, 60, NONE)", x.honey(30, 60, NONE), 0);
        x.go(1);
        d.due("honey(1, 60, 9)", x.honey(1, 60, 9), NOT);
        d.due("honey(3, 60, NONE)", x.honey(3, 60, NONE), NOT);
        d.due("honey(1, 61, NONE)", x.honey(1, 61, NONE), OUTSIDE);
        return d;
    }

    private static Due promise22() {
        Due d = new Due("22 smear");
        // Without a smear trail 0 is taken; trail 2 goes to the end.
        SugarStamps x = Due.told(SMALL, "file 3 0 1");
        d.due("smear(0, 9, 0)", x.smear(0, 9, 0), 0);
        d.due("smear(0, 9, 1), trail 0 of 4 is enough", x.smear(0, 9, 1), 0);
        d.due("smear(0, 9, 2)", x.smear(0, 9, 2), 0);
        x.spill(0, 50);
        d.due("smear(0, 1, 0)", x.smear(0, 1, 0), 0);
        d.due("smear(0, 1, 1)", x.smear(0, 1, 1), 0);
        d.due("smear(0, 1, 2)", x.smear(0, 1, 2), 0);
        x.sit(0);
        d.due("smear(0, 99, 0), the queen", x.smear(0, 99, 0), NONE);
        d.due("smear(0, 99, 1), the queen", x.smear(0, 99, 1), NONE);
        d.due("smear(0, 99, 2), the queen", x.smear(0, 99, 2), NONE);
        x.sit(NONE);
        d.due("smear(1, 99, 0)", x.smear(1, 99, 0), NONE);
        d.due("smear(2, 0, 0)", x.smear(2, 0, 0), UNKNOWN);
        d.due("smear(-1, 1, 0)", x.smear(-1, 1, 0), UNKNOWN);
        d.due("smear(0, 0, 0)", x.smear(0, 0, 0), OUTSIDE);
        d.due("smear(0, 100, 0)", x.smear(0, 100, 0), OUTSIDE);
        d.due("smear(0, 1, 3)", x.smear(0, 1, 3), OUTSIDE);
        d.due("smear(0, 1, -1)", x.smear(0, 1, -1), OUTSIDE);
        d.due("trail(0, 2), nothing changes", x.trail(0, 2), 50);
        x.go(2);
        d.due("smear(0, 9, 0), filed", x.smear(0, 9, 0), NOT);
        d.due("smear(0, 0, 0), filed", x.smear(0, 0, 0), OUTSIDE);
        // Trails 0 and 1 both lead astray with 50.
        x = Due.told("office 4;trail 0 1 50;trail 0 3 50;trail 0 2 5;file 0 2 3");
        x.go(2);
        d.due("smear(0, 9, 0), behind a wrong way", x.smear(0, 9, 0), 2);
        d.due("smear(0, 9, 1), trail 0 is not taken back", x.smear(0, 9, 1), 1);
        d.due("smear(0, 9, 2)", x.smear(0, 9, 2), 0);
        x = Due.told("office 4;fade 0;trail 0 1 50;trail 0 3 50;trail 0 2 5;file 0 2 3");
        d.due("smear(0, 1, 0)", x.smear(0, 1, 0), 0);
        d.due("smear(0, 1, 1)", x.smear(0, 1, 1), 2);
        d.due("smear(0, 1, 2)", x.smear(0, 1, 2), 51);
        x = Due.told("office 4;trail 0 1 98;trail 0 3 98;trail 0 2 5;file 0 2 3");
        d.due("smear(0, 1, 1)", x.smear(0, 1, 1), 2);
        d.due("smear(0, 1, 2), the most", x.smear(0, 1, 2), 99);
        x.spill(0, 99);
        d.due("smear(0, 1, 0), not even the most", x.smear(0, 1, 0), NONE);
        x = Due.told("file 0 1 3");
        d.due("smear(0, 1, 0), no trails", x.smear(0, 1, 0), NONE);
        return d;
    }

    private static Due promise23() {
        Due d = new Due("23 quiet");
        SugarStamps x = Due.told("office 6;trail 0 1 0;trail 2 1 0;trail 2 3 0;trail 0 3 1;trail 3 4 0;cellar 1");
        int[] from0 = {0, 1, 2, 3, 4, NONE};
        for (int desk = 0; desk < 6; desk++) {
            d.due("quiet(0, " + desk + ")", x.quiet(0, desk), from0[desk]);
            d.due("quiet(" + desk + ", 0)", x.quiet(desk, 0), from0[desk]);
        }
        x.spill(3, 0);
        d.due("quiet(0, 4)", x.quiet(0, 4), 2);
        x.spill(2, 9);
        x.spill(3, 9);
        d.due("quiet(0, 4)", x.quiet(0, 4), NONE);
        d.due("quiet(4, 4)", x.quiet(4, 4), 0);
        d.due("quiet(5, 5)", x.quiet(5, 5), 0);
        d.due("quiet(6, 0)", x.quiet(6, 0), UNKNOWN);
        d.due("quiet(0, 6)", x.quiet(0, 6), UNKNOWN);
        d.due("quiet(-1, -1)", x.quiet(-1, -1), UNKNOWN);
        return d;
    }

    private static Due promise24And25() {
        Due d = new Due("24 harm, 25 worst");
        SugarStamps x = Due.told("office 4;trail 0 1 0;trail 2 3 0;file 0 1 5;file 2 3 5;file 2 3 5");
        d.due("harm(0, 1)", x.harm(0, 1), 101);
        d.due("harm(1, 1)", x.harm(1, 1), 100);
        d.due("harm(2, 1)", x.harm(2, 1), 101);
        d.due("harm(2, 2)", x.harm(2, 2), 102);
        d.due("harm(2, 99)", x.harm(2, 99), 102);
        d.due("worst(1)", x.worst(1), 0);
        d.due("worst(2)", x.worst(2), 2);
        // She who sits there now is not counted.
        x.sit(2);
        d.due("harm(2, 2), she sits there", x.harm(2, 2), 102);
        d.due("harm(0, 2), she sits elsewhere", x.harm(0, 2), 101);
        d.due("worst(99)", x.worst(99), 2);
        d.due("count(6), nothing changes", x.count(6), 2);
        x.sit(NONE);
        x.go(2);
        d.due("harm(2, 2), all are filed", x.harm(2, 2), 100);
        d.due("worst(2), all are filed", x.worst(2), 0);
        x = Due.told("office 4;trail 1 3 0;trail 2 3 0;file 1 3 1;file 1 3 1;file 2 3 1");
        d.due("worst(1), of several the least", x.worst(1), 1);
        d.due("worst(2), desk 1 of 0, 2, 1", x.worst(2), 1);
        d.due("harm(4, 0)", x.harm(4, 0), UNKNOWN);
        d.due("harm(-1, 1)", x.harm(-1, 1), UNKNOWN);
        d.due("harm(0, 0)", x.harm(0, 0), OUTSIDE);
        d.due("harm(0, 100)", x.harm(0, 100), OUTSIDE);
        d.due("worst(0)", x.worst(0), OUTSIDE);
        d.due("worst(100)", x.worst(100), OUTSIDE);
        // She may help: held at desk 1, file 1 does not go ahead of file 0.
        x = Due.told("office 4;fade 0;trail 0 2 50;trail 1 0 0;file 0 2 1;file 1 3 9;file 0 2 5");
        d.due("harm(1, 2)", x.harm(1, 2), 99);
        d.due("harm(0, 2)", x.harm(0, 2), 101);
        d.due("harm(2, 2)", x.harm(2, 2), 100);
        d.due("worst(2)", x.worst(2), 0);
        return d;
    }

    private static Due promise26And27() {
        Due d = new Due("26 seen, 27 forget");
        SugarStamps x = Due.told(SMALL);
        d.due("forget()", x.forget(), 0);
        d.due("seen(1, 0, 100)", x.seen(1, 0, 100), UNKNOWN);
        d.due("seen(0, 4, 100)", x.seen(0, 4, 100), UNKNOWN);
        d.due("seen(-1, 0, 0)", x.seen(-1, 0, 0), UNKNOWN);
        d.due("seen(0, -1, 0)", x.seen(0, -1, 0), UNKNOWN);
        d.due("seen(0, 0, 100)", x.seen(0, 0, 100), OUTSIDE);
        d.due("seen(0, 0, -1)", x.seen(0, 0, -1), OUTSIDE);
        for (int i = 1; i <= 6; i++) d.due("seen", x.seen(0, i % 4, 99 - i), i);
        d.due("count(8)", x.count(8), 6);
        d.due("seen, a seventh", x.seen(0, 0, 0), FULL);
        d.due("seen(0, 0, 100)", x.seen(0, 0, 100), OUTSIDE);
        d.due("seen(1, 0, 0)", x.seen(1, 0, 0), UNKNOWN);
        d.due("forget()", x.forget(), 6);
        d.due("count(8)", x.count(8), 0);
        d.due("forget()", x.forget(), 0);
        d.due("stamps(0)", x.stamps(0), 1023);
        d.due("seen(0, 0, 99)", x.seen(0, 0, 99), 1);
        return d;
    }

    private static Due promise28() {
        Due d = new Due("28 stamps");
        SugarStamps x = Due.told("office 3;trail 0 1 5;trail 1 2 5;file 0 2 3;file 0 2 5");
        d.due("stamps(0), nothing seen", x.stamps(0), 1023);
        x.seen(0, 1, 1);
        // File 0 goes first if it has at least as much as file 1.
        d.due("stamps(0)", x.stamps(0), 0b1111100000);
        // Of the other one nothing was seen.
        d.due("stamps(1)", x.stamps(1), 1023);
        x.seen(1, 1, 1);
        d.due("stamps(1), file 0 has 3", x.stamps(1), 0b1111110000);
        x.seen(0, 2, 1);
        d.due("stamps(0), at two desks", x.stamps(0), 0);
        x.forget();
        x.seen(0, 0, 99);
        d.due("stamps(0), never carried", x.stamps(0), 1);
        x.forget();
        x.seen(0, 0, 0);
        d.due("stamps(0), at first", x.stamps(0), 1023);
        x.seen(0, 1, 0);
        d.due("stamps(0), elsewhere at first", x.stamps(0), 0);
        x.forget();
        x.seen(0, 1, 1);
        // As told: stamps, spills, rain and the queen of now are nothing to it.
        x.stamp(1, 0);
        x.spill(0, 0);
        x.rain();
        x.sit(0);
        x.go(3);
        d.due("stamps(0), as told", x.stamps(0), 0b1111100000);
        d.due("count(5), nothing changes", x.count(5), 3);
        d.due("stamps(2)", x.stamps(2), UNKNOWN);
        d.due("stamps(-1)", x.stamps(-1), UNKNOWN);
        x = Due.told("winter 2;trail 0 1 0;file 0 1 0");
        x.seen(0, 0, 2);
        d.due("stamps(0), winter", x.stamps(0), 1023);
        x.seen(0, 1, 3);
        d.due("stamps(0), behind it", x.stamps(0), 1022);
        return d;
    }

    private static Due promise29And30() {
        Due d = new Due("29 crumbs, 30 odds");
        SugarStamps x = Due.told("office 3");
        d.due("odds(0, 0), none", x.odds(0, 0), NOT);
        d.due("odds(0, 2), none", x.odds(0, 2), OUTSIDE);
        d.due("odds(3, 2), none", x.odds(3, 2), UNKNOWN);
        d.due("odds(-1, 0)", x.odds(-1, 0), UNKNOWN);
        d.due("odds(0, -1)", x.odds(0, -1), OUTSIDE);
        d.due("crumbs(0, 99)", x.crumbs(0, 99), 0);
        d.due("crumbs(0, 6)", x.crumbs(0, 6), 99);
        d.due("crumbs(0, 100)", x.crumbs(0, 100), OUTSIDE);
        d.due("crumbs(0, -1)", x.crumbs(0, -1), OUTSIDE);
        d.due("crumbs(3, 100)", x.crumbs(3, 100), UNKNOWN);
        d.due("crumbs(-1, 0)", x.crumbs(-1, 0), UNKNOWN);
        d.due("odds(0, 0)", x.odds(0, 0), 1);
        d.due("odds(0, 1)", x.odds(0, 1), 1);
        d.due("odds(1, 0)", x.odds(1, 0), 0);
        d.due("odds(1, 1)", x.odds(1, 1), 1);
        x.crumbs(2, 9);
        d.due("odds(0, 0)", x.odds(0, 0), 2);
        d.due("odds(0, 1)", x.odds(0, 1), 5);
        d.due("odds(2, 0)", x.odds(2, 0), 3);
        d.due("odds(2, 1)", x.odds(2, 1), 5);
        x.crumbs(1, 1);
        d.due("odds(2, 0)", x.odds(2, 0), 9);
        d.due("odds(2, 1)", x.odds(2, 1), 16);
        x.crumbs(0, 0);
        x.crumbs(1, 0);
        x.crumbs(2, 0);
        d.due("odds(2, 1), none again", x.odds(2, 1), NOT);
        x.crumbs(1, 1);
        d.due("odds(1, 0), one in all", x.odds(1, 0), 1);
        x.crumbs(1, 2);
        x.crumbs(2, 2);
        d.due("odds(1, 0), halves", x.odds(1, 0), 1);
        d.due("odds(1, 1), halves", x.odds(1, 1), 2);
        Due.tell(x, "office 8");
        for (int desk = 0; desk < 8; desk++) x.crumbs(desk, 99);
        d.due("odds(7, 0)", x.odds(7, 0), 1);
        d.due("odds(7, 1)", x.odds(7, 1), 8);
        return d;
    }

    private static Due promise31() {
        Due d = new Due("31 count");
        SugarStamps x = Due.told("office 5;fade 3;winter 4;trail 0 1 9;trail 1 2 9;file 0 1 1;file 1 0 0;file 2 1 7");
        x.go(5);
        x.sit(2);
        x.seen(0, 0, 0);
        Due.write(x, "abc");
        int[] due = {5, 2, 3, 3, 0, 5, 2, 0b101, 1, 3};
        for (int what = 0; what < due.length; what++) d.due("count(" + what + ")", x.count(what), due[what]);
        d.due("count(10)", x.count(10), OUTSIDE);
        d.due("count(-1)", x.count(-1), OUTSIDE);
        d.due("count(MAX)", x.count(Integer.MAX_VALUE), OUTSIDE);
        return d;
    }
}
