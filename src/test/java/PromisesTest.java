/** Each promise of the document by itself; what is due was worked out by hand. */
public final class PromisesTest extends Check {
    public static void main(String[] args) {
        stairPromises();
        deedPromises();
        holdPromises();
        insteadPromises();
        roomPromises();
        gamePromises();
        sharePromises();
        trayPromises();
        finish();
    }

    private static void promise(int n) {
        about("promise " + n);
    }

    /** Two steps of 10; 8 and 15 stand on them; the joint passes 4 on. 2 to spare, by step 0. */
    private static final String TWO = "stair 10 10;joint 0 takes 4;person on 0 build 8;person on 1 build 15;";

    // ---- 1 to 9

    private static void stairPromises() {
        promise(1);
        LeanStair x = new LeanStair();
        int[] counts = {1, 0, 0, 0, 0, 1, 0, 0, 0, 0, 0, 0, 0};
        for (int what = 0; what < counts.length; what++) due("count(" + what + ")", x.count(what), counts[what]);
        due("stands()", x.stands(), 1);
        due("step(0, 0)", x.step(0, 0), 0);
        due("step(1, 0)", x.step(1, 0), -2);
        due("person(0, 0)", x.person(0, 0), -2);
        due("fault(0)", x.fault(0), 0);
        due("fault(1)", x.fault(1), -1);
        for (int tray = 0; tray < 4; tray++) due("lists(" + tray + ")", x.lists(tray), -6);
        due("restore(0)", x.restore(0), -5);
        due("restore(1)", x.restore(1), -5);
        due("undo(1)", x.undo(1), -3);

        promise2();
        promise3();
        promise4();

        promise(5);
        x = told("stair 0 0 0;person on 2 build 41 age 33 frail 7 by 12;person on 1 build 5;person on 0 build 9 age 1 age 2;couple 0 2;"
            + "bears : build + wed * 100 + age - 40;day 4;");
        int[][] due5 = {{2, 41, 33, 7, 12, 2, 1, 134}, {1, 5, 0, 0, -1, -1, 1, 0}, {0, 9, 2, 0, -1, 0, 1, 71}};
        for (int p = 0; p < 3; p++) for (int what = 0; what < 8; what++) due("person(" + p + ", " + what + ")", x.person(p, what), due5[p][what]);
        due("person(0, 8)", x.person(0, 8), -2);
        due("person(0, -1)", x.person(0, -1), -2);
        due("person(3, 0)", x.person(3, 0), -2);
        due("person(-1, 4)", x.person(-1, 4), -2);
        x.days(3);
        due("person(0, 2)", x.person(0, 2), 36);
        due("person(0, 7)", x.person(0, 7), 137);
        x.see(2);
        due("person(0, 7), alone now", x.person(0, 7), 37);
        due("person(0, 5)", x.person(0, 5), 2);
        due("person(2, 6)", x.person(2, 6), 0);
        due("person(2, 7)", x.person(2, 7), 0);
        due("person(2, 0)", x.person(2, 0), 0);
        x.bring(1, 7);
        due("person(3, 2)", x.person(3, 2), 0);
        due("person(3, 3)", x.person(3, 3), 0);
        due("person(3, 4)", x.person(3, 4), -1);
        due("person(3, 5)", x.person(3, 5), -1);
        x.days(2);
        due("person(3, 2), two days old", x.person(3, 2), 2);
        due("person(2, 2), gone but older", x.person(2, 2), 7);
        x = told("stair 0;person on 0 build 99;bears : build * build;");
        due("person(0, 7) at most", x.person(0, 7), 999);
        x = told("stair 0;person on 0 build 99;bears : 5 - build;");
        due("person(0, 7) at least", x.person(0, 7), 0);
        laws();

        promise(6);
        x = told("stair 3 0 7;joint 1 takes 20;joint 0 takes 5;joint 1 takes 6;person on 0 build 8;person on 2 build 9;person on 2 build 1;");
        x.prop(2);
        x.prop(2);
        int[][] due6 = {{3, 8, 0, 1, 5}, {0, 0, 0, 0, 6}, {7, 30, 2, 6, 0}};
        for (int k = 0; k < 3; k++) for (int what = 0; what < 5; what++) due("step(" + k + ", " + what + ")", x.step(k, what), due6[k][what]);
        due("step(0, 5)", x.step(0, 5), -2);
        due("step(0, -1)", x.step(0, -1), -2);
        due("step(3, 0)", x.step(3, 0), -2);
        due("step(-1, 0)", x.step(-1, 0), -2);
        x.see(1);
        due("step(2, 3)", x.step(2, 3), 4);

        promise(7);
        due("stands()", told(TWO).stands(), 1);
        due("stands(), just so", told("stair 10 0;joint 0 takes 4;person on 0 build 6;person on 1 build 4;").stands(), 1);
        due("stands(), the joint takes too little", told("stair 10 0;joint 0 takes 3;person on 0 build 6;person on 1 build 9;").stands(), 0);
        due("stands(), over two joints", told("stair 9 0 0;joint 0 takes 9;joint 1 takes 9;person on 2 build 9;").stands(), 1);
        due("stands(), from both ends", told("stair 9 0 9;joint 0 takes 9;joint 1 takes 9;person on 1 build 18;").stands(), 1);
        due("stands(), from both ends, 1 too much", told("stair 9 0 9;joint 0 takes 9;joint 1 takes 9;person on 1 build 17;").stands(), 0);
        due("stands(), no joint told", told("stair 5 0;person on 1 build 50;").stands(), 0);

        promise(8);
        x = told(TWO);
        due("crack(0)", x.crack(0), -1);
        due("crack(1)", x.crack(1), -1);
        due("crack(2)", x.crack(2), -2);
        due("crack(-1)", x.crack(-1), -2);
        x.see(1);
        due("crack(0)", x.crack(0), 0);
        due("crack(1)", x.crack(1), 1);
        x = told("stair 0 9 9 0;joint 2 takes 3;person on 0 build 50;person on 1 build 8;");
        due("crack(0), the shortest of the first", x.crack(0), 1);
        due("crack(1), the shortest of the first", x.crack(1), 1);
        due("crack(2)", x.crack(2), -2);
        x = told("stair 0 5 9;joint 0 takes 6;joint 1 takes 1;");
        due("crack(0), by the first step", x.crack(0), 0);
        due("crack(1), by the first step", x.crack(1), 1);

        promise(9);
        due("spare()", told(TWO).spare(), 2);
        due("spare(), fallen", told("stair 10 10;joint 0 takes 4;").spare(), -20);
        due("spare(), the whole", told("stair 10 10;joint 0 takes 50;person on 0 build 21;").spare(), 1);
        due("spare(), a middle row", told("stair 0 9 9 0;joint 0 takes 1;joint 1 takes 50;joint 2 takes 2;person on 0 build 99;person on 1 build 16;person on 3 build 99;").spare(), 1);
        due("spare(), no load", told("stair 0 0;person on 0 build 3;").spare(), 0);
    }

    private static void promise2() {
        promise(2);
        LeanStair x = new LeanStair();
        due("feed", x.feed(0x73746169, 0x7220373b, 0x7175657a, -1, 0x80ff0001), 20);
        due("count(11)", x.count(11), 20);
        due("stair(8)", x.stair(8), 1);
        due("step(0, 0)", x.step(0, 0), 7);
        for (int i = 1; i <= 45; i++) due("feed, time " + i, x.feed(0x3b3b3b3b, 0, 0, 0, 0), 20 * i);
        due("feed beyond 900", x.feed(1, 2, 3, 4, 5), -5);
        due("count(11)", x.count(11), 900);
        due("stair(900)", x.stair(900), -32);
        due("feed behind", x.feed(0, 0, 0, 0, 0), 20);
        x = new LeanStair();
        StringBuilder long900 = new StringBuilder("stair 5;");
        while (long900.length() < 899) long900.append(' ');
        due("a text of 900 bytes", tell(x, long900.append('\n').toString()), 1);
    }

    private static void promise3() {
        promise(3);
        LeanStair x = new LeanStair();
        feed(x, "stair 5 6;   stair");
        due("stair(21)", x.stair(21), -3);
        due("stair(-1)", x.stair(-1), -3);
        due("count(11): the tape stays", x.count(11), 20);
        due("fault(0): it wasn't read", x.fault(0), 0);
        due("stair(10)", x.stair(10), 1);
        due("count(11)", x.count(11), 0);
        due("count(0)", x.count(0), 2);
        due("count(3): fallen at once", x.count(3), 1);
        due("stair(1): nothing there", x.stair(1), -3);
        due("stair(0)", x.stair(0), -32);
        due("fault(1)", x.fault(1), 0);
        x = told(TWO);
        due("how many lines", x.count(12), 4);
        x.prop(1);
        x.days(2);
        x.see(0);
        x.undo(1);
        due("a text with a fault", tell(x, "stair 1;person on 0 build 5;joint"), -33 + 1);
        due("count(11)", x.count(11), 0);
        due("all stays: steps", x.count(0), 2);
        due("all stays: people", x.count(1), 2);
        due("all stays: props", x.count(6), 1);
        due("all stays: day", x.count(7), 2);
        due("all stays: what can be undone", x.count(10), 2);
        due("all stays: lines", x.count(12), 4);
        due("another text", tell(x, "stair 3;person on 0 build 4;\nday 9;quota 3 ; may:1=1;"), 5);
        int[] counts = {1, 1, 1, 0, 0, 3, 0, 9, 3, 4, 0, 0, 5, -1};
        for (int what = 0; what < counts.length; what++) due("count(" + what + ")", x.count(what), counts[what]);
        due("undo(1)", x.undo(1), -3);
        due("quota, day, bears, may: the later one", tell(x, "stair 0;person on 0 build 3;quota 2;quota 4;day 5;day 6;bears : 1;bears : 2;may : 1 = 1;may : 1 = 2;"), 10);
        due("quota", x.count(5), 4);
        due("day", x.count(7), 6);
        due("bears", x.person(0, 7), 2);
        due("may", x.see(0), -14);
        due("seen is of the new stair", x.count(4), 0);
    }

    private static void promise4() {
        promise(4);
        String two = "stair 1 1;person on 0 build 1;person on 1 build 1;";
        int e = two.length();
        at("", 2, 0);
        at("  ", 2, 2);
        at("stair", 2, 5);
        at("stair 1", 2, 7);
        at("stair 1 \n ", 2, 10);
        at("stair 1;", 0, -1);
        at("\nstair\n001;\n", 0, -1);
        at("stair1;", 0, -1);
        at("stairs 1;", 2, 0);
        at("Stair 1;", 1, 0);
        at("stair 1,", 1, 7);
        at("stair\t1;", 1, 5);
        at("stair 1;\r", 1, 8);
        at("stair 1;\u00e9", 1, 8);
        at("stair 1;\0", 1, 8);
        at("stair 0000;", 1, 6);
        at("stair 1;1000", 1, 8);
        at("stair 1;100", 2, 8);
        at("stair -1;", 2, 6);
        at("stair 1 2 3 4 5 6 7 8;", 0, -1);
        at("stair 1 2 3 4 5 6 7 8 9;", 2, 22);
        at("stair 1 2 3 4 5 6 7 8 9999;", 1, 22);
        at("stair 1;;", 2, 8);
        at("stair 1;stair 1;", 2, 8);
        at("stair 1;queue 1;", 2, 8);
        at("day 1;stair 1;", 2, 0);
        at("stair 1;joint 0 takes 1;", 3, 14);
        at("stair 1 1;joint 0 takes 999;", 0, -1);
        at("stair 1 1;joint 0;", 2, 17);
        at("stair 1 1;joint 1 takes 5;", 3, 16);
        at("stair 1;person on 1 build 1;", 3, 18);
        at("stair 1;person on 0 build 100;", 3, 26);
        at("stair 1;person on 0 build 99 by 0 frail 10 age 99 frail 0 by 999;", 0, -1);
        at("stair 1;person on 0 build 1 frail 11;", 3, 34);
        at("stair 1;person on 0 build 1 age 100;", 3, 32);
        at("stair 1;person on 0 build 1 wed 1;", 2, 28);
        at("stair 1;person on 0 by 1;", 2, 20);
        at(two + "couple 0 1;", 0, -1);
        at(two + "couple 1 0;", 0, -1);
        at("stair 1;couple 0 1;", 3, 15);
        at(two + "couple 0 2;", 3, e + 9);
        at(two + "couple 1 1;", 3, e + 9);
        at(two + "couple 0 1;couple 0 1;", 3, e + 18);
        at(two + "person on 0 build 1;couple 0 1;couple 2 1;", 3, e + 40);
        at(two + "couple 0;", 2, e + 8);
        at("stair 1;quota 0;", 3, 14);
        at("stair 1;quota 1;", 0, -1);
        at("stair 1;quota 9;", 0, -1);
        at("stair 1;quota 10;", 3, 14);
        at("stair 1;quota 10", 3, 14);
        at("stair 1;day 999;", 0, -1);
        at("stair 1;bears : wait;", 2, 16);
        at("stair 1;may : wait > 1;", 0, -1);
        at("stair 1;bears : 1 = 1;", 2, 18);
        at("stair 1;bears : who + build * age - step + day * wed - (7);", 0, -1);
        at("stair 1;bears : build build;", 2, 22);
        at("stair 1;bears : ;", 2, 16);
        at("stair 1;bears 1;", 2, 14);
        at("stair 1;bears : frail;", 2, 16);
        at("stair 1;bears : [1];", 2, 16);
        at("stair 1;bears : 1 +;", 2, 19);
        at("stair 1;bears : -1;", 2, 16);
        at("stair 1;bears : (1;", 2, 18);
        at("stair 1;bears : 1);", 2, 17);
        at("stair 1;may : (1 = 1);", 2, 17);
        at("stair 1;may : [1] = 1;", 2, 16);
        at("stair 1;may : not 1;", 2, 19);
        at("stair 1;may : 1 = 1 = 1;", 2, 20);
        at("stair 1;may : 1 = 1 and;", 2, 23);
        at("stair 1;may : 1 = 1 not 1 = 1;", 2, 20);
        at("stair 1;may : not [not (((1 = 1];", 2, 28);
        at("stair 1;may : not not not not not not 1 = 1;", 0, -1);
        at("stair 1;may : not not not not not not not 1 = 1;", 4, 38);
        at("stair 1;may : not [not [not (1) = [1];", 2, 34);
        at("stair 1;may : [[[[[[1 = 1]]]]]] and [[[[[[(1) = 1]]]]]];", 4, 42);
        at("stair 1;may : [[[[[[[1 = 1]]]]]]];", 4, 20);
        at("stair 1;bears : ((((((1))))));", 0, -1);
        at("stair 1;bears : (((((((1)))))));", 4, 22);
        at("stair 1;bears : ((((((1 ( 1))))));", 2, 24);
        at("stair 1;may : not [not [(((1))) = 1]];", 4, 26);
        at("stair 1;may : not [not [((1)) = ((1)) + (((1)))]];", 4, 42);
        String nine = "stair 1;";
        for (int i = 0; i < 9; i++) nine += "person on 0 build 1;";
        at(nine, 0, -1);
        at(nine + "person", 4, nine.length());
        at(nine + "day 1;\n person on 5 build 1;", 4, nine.length() + 8);
        LeanStair x = new LeanStair();
        tell(x, "stair 1;quota 0;");
        due("fault(2)", x.fault(2), -1);
        due("fault(-1)", x.fault(-1), -1);
        x.stair(5);
        due("fault(0) stays: it wasn't read", x.fault(0), 3);
        tell(x, "stair 1;");
        due("fault(0) is gone", x.fault(0), 0);
        due("fault(1) is gone", x.fault(1), -1);
    }

    private static void bears(String law, int want) {
        LeanStair x = told("stair 0 0;person on 0 build 0;person on 1 build 30 age 12;person on 0 build 1;couple 1 2;day 10;bears : " + law + ";");
        due("bears : " + law, x.person(1, 7), want);
    }

    private static void may(String law, boolean want) {
        LeanStair x = told("stair 0 0;person on 0 build 0;person on 1 build 30 age 12 by 14;person on 0 build 1;couple 1 2;day 10;may : " + law + ";");
        due("may : " + law, x.see(1), want ? 2 : -14);
    }

    private static void laws() {
        bears("who", 1);
        bears("build", 30);
        bears("age", 12);
        bears("step", 1);
        bears("day", 3);
        bears("wed", 1);
        bears("2 + 3 * 4", 14);
        bears("(2 + 3) * 4", 20);
        bears("20 - 5 - 3", 12);
        bears("20 - (5 - 3)", 18);
        bears("build * 2 - age * wed", 48);
        bears("999 * 999 * 999 - 999 * 999 - 999", 999);
        bears("999 * 999 * 999 - 999 * 999 - 999 - 999 - 1", 0);
        bears("999 * 999 * 999 - 999 * 999 - 999 - 900", 100);
        bears("(0 - 999) * 999 * 999 + 999 * 999 + 999 + 999 + 5", 4);
        bears("999 * 999 + 999 + 999 + 999 + 999 - 999 * 999 - 999 - 900", 100);
        may("1 = 1", true);
        may("1 = 2", false);
        may("1 < 2", true);
        may("2 < 2", false);
        may("3 > 2", true);
        may("2 > 2", false);
        may("wait = 4", true);
        may("not 1 = 2", true);
        may("not not 1 = 2", false);
        may("1 = 1 or 1 = 2 and 1 = 3", true);
        may("[1 = 1 or 1 = 2] and 1 = 3", false);
        may("not 1 = 1 or 1 = 1", true);
        may("not [1 = 1 or 1 = 1]", false);
        may("1 = 1 and 2 = 2 and 3 = 4", false);
        may("wed + who + step = 3 and age = 12 and build = 30 and day = 3", true);
        LeanStair x = told("stair 0;person on 0 build 1;person on 0 build 1 by 9;person on 0 build 1 by 999;day 10;quota 9;may : wait = 99 or wait = 0 or wait > 988;");
        due("wait without a by", x.see(0), 2);
        due("wait behind the by", x.see(1), 1);
        due("wait far ahead", x.see(2), 0);
    }

    // ---- 10 to 18

    private static void deedPromises() {
        promise(10);
        LeanStair x = told("stair 1;person on 0 build 1;person on 0 build 2;person on 0 build 3 age 7;person on 0 build 4;quota 2;may : not who = 2 or age > 7;");
        due("see(4)", x.see(4), -11);
        due("see(-1)", x.see(-1), -11);
        due("see(2)", x.see(2), -14);
        due("count(10): nothing was done", x.count(10), 0);
        due("see(0)", x.see(0), 3);
        due("count(4)", x.count(4), 1);
        due("see(0) again", x.see(0), -12);
        due("see(1)", x.see(1), 2);
        due("see(2): the quota first", x.see(2), -13);
        due("see(1): gone ahead of the quota", x.see(1), -12);
        due("see(9): no such one first of all", x.see(9), -11);
        x.days(1);
        due("count(4)", x.count(4), 0);
        due("see(2), a day older", x.see(2), 1);
        due("see(3): it falls", x.see(3), 0);
        due("count(3)", x.count(3), 1);
        due("see(3)", x.see(3), -12);
        due("see(4)", x.see(4), -11);
        due("days(1)", x.days(1), -5);

        promise(11);
        x = told("stair 1 1;joint 0 takes 1;person on 0 build 2;quota 9;bears : 2 + age * 0 - wed + who * 0;");
        due("bring(2, 5)", x.bring(2, 5), -11);
        due("bring(-1, 5)", x.bring(-1, 5), -11);
        due("bring(0, 100)", x.bring(0, 100), -11);
        due("bring(0, -1)", x.bring(0, -1), -11);
        due("count(10)", x.count(10), 0);
        due("bring(1, 99)", x.bring(1, 99), 1);
        due("person(1, 0)", x.person(1, 0), 1);
        due("person(1, 1)", x.person(1, 1), 99);
        due("person(1, 6)", x.person(1, 6), 1);
        x.see(1);
        for (int p = 2; p < 9; p++) due("bring(0, 0)", x.bring(0, 0), p);
        due("bring(0, 0): nine in all, though one is gone", x.bring(0, 0), -12);
        due("bring(5, 0): no such step first", x.bring(5, 0), -11);
        due("count(2)", x.count(2), 0b111111101);
        due("undo(1)", x.undo(1), x.count(10));
        due("one less", x.count(1), 8);
        due("not there", x.count(2), 0b11111101);
        x = told("stair 1;");
        due("bring(0, 5), fallen", x.bring(0, 5), -12);

        promise(12);
        x = told(TWO + "person on 0 build 0;");
        due("move(2, 1)", x.move(2, 1), 1);
        due("person(2, 0)", x.person(2, 0), 1);
        due("move(2, 1): it is there", x.move(2, 1), -12);
        x.undo(1);
        due("undone", x.person(2, 0), 0);
        x.move(2, 1);
        due("move(2, 2)", x.move(2, 2), -11);
        due("move(2, -1)", x.move(2, -1), -11);
        due("move(3, 0)", x.move(3, 0), -11);
        due("move(-1, 0)", x.move(-1, 0), -11);
        x.see(2);
        due("move(2, 0): gone", x.move(2, 0), -12);
        due("move(0, 1): it falls", x.move(0, 1), 0);
        due("count(3)", x.count(3), 1);
        due("move(0, 0): fallen", x.move(0, 0), -12);
        due("move(0, 5)", x.move(0, 5), -11);
        x = told("stair 0 0 0;person on 0 build 1;");
        due("move(0, 2): not beside", x.move(0, 2), -12);

        promise(13);
        x = told("stair 0 9;person on 1 build 9;");
        due("prop(2)", x.prop(2), -11);
        due("prop(-1)", x.prop(-1), -11);
        due("prop(0)", x.prop(0), 1);
        due("prop(1)", x.prop(1), 1);
        due("prop(0)", x.prop(0), 2);
        due("step(0, 1)", x.step(0, 1), 20);
        for (int i = 3; i <= 98; i++) due("prop(0)", x.prop(0), i);
        due("count(6)", x.count(6), 99);
        due("prop(1): 99 in all", x.prop(1), -12);
        due("prop(2)", x.prop(2), -11);
        due("prop(0), fallen", told("stair 5;").prop(0), -12);

        promise(14);
        x = told("stair 20;person on 0 build 30;bears : build - age;day 5;");
        due("days(0)", x.days(0), -3);
        due("days(100)", x.days(100), -3);
        due("days(10)", x.days(10), 10);
        due("count(7)", x.count(7), 15);
        due("stands()", x.stands(), 1);
        due("days(99): till it falls", x.days(99), 1);
        due("count(7)", x.count(7), 16);
        due("days(0), fallen", x.days(0), -3);
        due("days(1), fallen", x.days(1), -5);
        due("count(10)", x.count(10), 2);
        due("undo(1)", x.undo(1), 1);
        due("stands()", x.stands(), 1);
        due("days(99)", new LeanStair().days(99), 99);

        promise15();
        promise16();
    }

    private static void promise15() {
        promise(15);
        LeanStair x = told(TWO);
        due("undo(1)", x.undo(1), -3);
        x.prop(0);
        x.see(5);
        x.move(0, 0);
        due("count(10): refused calls don't count", x.count(10), 1);
        x.days(3);
        x.bring(1, 5);
        x.see(2);
        due("count(10)", x.count(10), 4);
        due("undo(0)", x.undo(0), -3);
        due("undo(-1)", x.undo(-1), -3);
        due("undo(5)", x.undo(5), -3);
        due("undo(1)", x.undo(1), 3);
        due("count(2)", x.count(2), 7);
        due("count(4)", x.count(4), 0);
        due("undo(2)", x.undo(2), 1);
        due("count(1)", x.count(1), 2);
        due("count(7)", x.count(7), 0);
        due("count(6)", x.count(6), 1);
        due("undo(1)", x.undo(1), 0);
        due("count(6)", x.count(6), 0);
        for (int i = 0; i < 14; i++) x.prop(i % 2);
        due("count(10): ten at most", x.count(10), 10);
        due("undo(11)", x.undo(11), -3);
        due("undo(10)", x.undo(10), 0);
        due("count(6): the eldest four stay", x.count(6), 4);
        due("undo(1)", x.undo(1), -3);
        x = told(TWO);
        x.see(1);
        due("fallen", x.count(3), 1);
        due("undo(1)", x.undo(1), 0);
        due("not fallen", x.count(3), 0);
        x.days(1);
        x.year(1, 40);
        x.undo(1);
        due("a call as a whole", x.count(7), 1);
        tray(x, 0, 200, 200, -1);
        due("perform(0)", x.perform(0), 3);
        due("undo(1)", x.undo(1), 1);
        due("count(6)", x.count(6), 0);
        tray(x, 0, 77);
        due("perform(0)", x.perform(0), 0);
        due("count(10): it did nothing", x.count(10), 1);
    }

    private static void judged(LeanStair x, int tray, int place, int why, int there, int fallen) {
        due("judge(" + tray + ", 0)", x.judge(tray, 0), place);
        due("judge(" + tray + ", 1)", x.judge(tray, 1), why);
        due("judge(" + tray + ", 2)", x.judge(tray, 2), there);
        due("judge(" + tray + ", 3)", x.judge(tray, 3), fallen);
    }

    private static void promise16() {
        promise(16);
        LeanStair x = told("stair 10 10;joint 0 takes 4;person on 0 build 8;person on 1 build 15;person on 1 build 3;may : not who = 1;");
        due("judge(4, 0)", x.judge(4, 0), -2);
        due("judge(-1, 0)", x.judge(-1, 0), -2);
        due("judge(0, 4)", x.judge(0, 4), -2);
        due("judge(0, -1)", x.judge(0, -1), -2);
        due("judge(0, 0)", x.judge(0, 0), -6);
        x.numbers(0, 0, 0);
        judged(x, 0, -1, 0, 7, 0);
        tray(x, 1, 120, -1, 200, 2, 0);
        judged(x, 1, 4, 3, 3, 0);
        due("nothing was done", x.count(2) * 100 + x.count(6) * 10 + x.count(7), 700);
        due("nothing can be undone", x.count(10), 0);
        tray(x, 1, 2, 2);
        judged(x, 1, 1, 2, 3, 0);
        tray(x, 1, 3);
        judged(x, 1, 0, 1, 7, 0);
        tray(x, 1, 9);
        judged(x, 1, 0, 1, 7, 0);
        tray(x, 1, 10);
        judged(x, 1, 0, 1, 7, 0);
        tray(x, 1, 99);
        judged(x, 1, 0, 1, 7, 0);
        tray(x, 1, 1);
        judged(x, 1, 0, 4, 7, 0);
        tray(x, 1, 100);
        judged(x, 1, 0, 2, 7, 0);
        tray(x, 1, 102);
        judged(x, 1, 0, 1, 7, 0);
        tray(x, 1, 130);
        judged(x, 1, 0, 1, 7, 0);
        tray(x, 1, 199);
        judged(x, 1, 0, 1, 7, 0);
        tray(x, 1, 201, 202);
        judged(x, 1, 1, 1, 7, 0);
        tray(x, 1, 210);
        judged(x, 1, 0, 1, 7, 0);
        tray(x, 1, -2);
        judged(x, 1, 0, 1, 7, 0);
        tray(x, 1, (1L << 32) + 2);
        judged(x, 1, 0, 1, 7, 0);
        tray(x, 1, 0, 2, 77);
        judged(x, 1, 1, 2, 6, 1);
        tray(x, 1, 0, -1);
        judged(x, 1, 1, 2, 6, 1);
        tray(x, 1, 0);
        judged(x, 1, -1, 0, 6, 1);
        tray(x, 1, 0, 77);
        judged(x, 1, 1, 1, 6, 1);

        promise(17);
        due("perform(4)", x.perform(4), -2);
        due("perform(-1)", x.perform(-1), -2);
        due("perform(2)", x.perform(2), -6);
        tray(x, 1, 200, 120, 2, -1, 1, 200);
        due("perform(1)", x.perform(1), 4);
        due("count(2)", x.count(2), 3);
        due("count(6)", x.count(6), 1);
        due("count(7)", x.count(7), 1);
        due("person(2, 0)", x.person(2, 0), 0);
        due("count(10)", x.count(10), 1);
        due("undo(1)", x.undo(1), 0);
        due("count(2)", x.count(2), 7);

        promise(18);
        due("year(1, 0)", x.year(1, 0), -3);
        due("year(1, 41)", x.year(1, 41), -3);
        due("year(1, -1)", x.year(1, -1), -3);
        promise18();
    }

    /** The same draws, done one by one by the calls themselves. */
    private static void promise18() {
        String text = "stair 5 5 5;joint 0 takes 3;joint 1 takes 3;person on 0 build 9;person on 1 build 9;person on 2 build 9;person on 1 build 4;"
            + "person on 2 build 4;person on 0 build 4;quota 2;may : not day = 3;";
        int[] seeds = {0, 1, -1, 42, 123456789, Integer.MIN_VALUE, Integer.MAX_VALUE, -77, 5000};
        for (int seed : seeds) {
            LeanStair x = told(text);
            LeanStair y = told(text);
            int[] draw = {seed};
            int done = 0;
            for (int i = 0; i < 40; i++) {
                int what = next(draw) % 5;
                int got;
                if (what == 0) got = y.days(1);
                else if (what <= 2) got = y.see(next(draw) % 9);
                else if (what == 3) { int p = next(draw) % 9; got = y.move(p, next(draw) % 8); }
                else got = y.prop(next(draw) % 8);
                if (got >= 0) done++;
            }
            due("year(" + seed + ", 40)", x.year(seed, 40), done);
            for (int what = 0; what < 10; what++) due("count(" + what + ") behind year(" + seed + ", 40)", x.count(what), y.count(what));
            for (int p = 0; p < 6; p++) due("person(" + p + ", 0) behind", x.person(p, 0), y.person(p, 0));
            due("count(10)", x.count(10), done > 0 ? 1 : 0);
        }
        LeanStair x = told("stair 5;");
        due("year, fallen", x.year(3, 40), 0);
        due("count(10)", x.count(10), 0);
    }

    private static int next(int[] x) {
        x[0] = 1103515245 * x[0] + 12345;
        return x[0] >>> 16;
    }

    // ---- 19 to 24

    /** A step of 10 and three of 4, 6 and 10; the first two are a couple that bears 3 more each together. */
    private static final String THREE = "stair 10;person on 0 build 4;person on 0 build 6;person on 0 build 10;couple 0 1;quota 2;";

    private static void holdPromises() {
        LeanStair x = told(THREE);
        LeanStair y = told(THREE + "bears : build - wed * 3;");
        LeanStair gone = told("stair 10;person on 0 build 4;");

        promise(19);
        int[] holding = {0, 0, 0, 1, 1, 1, 1, 1};
        int[] grudging = {0, 0, 0, 0, 1, 1, 1, 1};
        for (int set = 0; set < 8; set++) {
            due("holds(" + set + ")", x.holds(set), holding[set]);
            due("holds(" + set + "), wed by the set", y.holds(set), grudging[set]);
        }
        due("holds(8)", x.holds(8), -3);
        due("holds(-1)", x.holds(-1), -3);
        x.see(0);
        due("holds(1): gone", x.holds(1), -3);
        due("holds(6)", x.holds(6), 1);
        x.undo(1);
        due("holds(0), fallen", gone.holds(0), 0);

        promise(20);
        due("fewest(0)", x.fewest(0), 1);
        due("fewest(1)", x.fewest(1), 4);
        due("fewest(2)", x.fewest(2), -2);
        due("fewest(-1)", x.fewest(-1), -2);
        due("fewest(0), none", gone.fewest(0), -1);
        due("fewest(1), none", gone.fewest(1), -1);
        due("fewest(2), none", gone.fewest(2), -2);
        LeanStair even = told("stair 4;person on 0 build 2;person on 0 build 2;person on 0 build 3;");
        due("fewest(0)", even.fewest(0), 2);
        due("fewest(1), the least of like ones", even.fewest(1), 3);
        due("fewest(1), nobody", told("stair 0;person on 0 build 2;").fewest(1), 0);

        promise(21);
        due("holdings()", x.holdings(), 5);
        due("holdings()", y.holdings(), 4);
        due("holdings(), none", gone.holdings(), 0);
        due("holdings(), all", told("stair 0;person on 0 build 2;person on 0 build 2;").holdings(), 4);

        promise(22);
        due("needed()", x.needed(), 0);
        due("needed(), y", y.needed(), 4);
        due("needed(), fallen", gone.needed(), 0);
        due("needed()", told(TWO).needed(), 3);
        due("needed(), if the other one bears less alone", told("stair 9;person on 0 build 3;person on 0 build 4;couple 0 1;bears : build + wed * 2;").needed(), 3);

        promise(23);
        due("most(0)", x.most(0), 2);
        due("most(1)", x.most(1), 3);
        due("most(2)", x.most(2), -2);
        due("most(0), none", gone.most(0), -1);
        due("most(2), none", gone.most(2), -2);
        due("most(0)", even.most(0), 1);
        due("most(1), the least of like ones", even.most(1), 1);
        due("most(1), all can go", told("stair 0;person on 0 build 2;person on 0 build 2;").most(1), 3);
        due("most(1), not only nobody", told("stair 4;person on 0 build 4;").most(1), 0);

        promise24();
    }

    private static void served(String text, int many, int set) {
        LeanStair x = told(text);
        due("served(0) of " + text, x.served(0), many);
        due("served(1) of " + text, x.served(1), set);
    }

    private static void promise24() {
        promise(24);
        String on = "person on 0 build 0";
        served("stair 0;" + on + ";" + on + ";", 0, 0);
        served("stair 0;" + on + " by 0;" + on + " by 0;", 1, 1);
        served("stair 0;" + on + " by 0;" + on + " by 1;", 2, 3);
        served("stair 0;" + on + " by 0;" + on + " by 0;quota 2;", 2, 3);
        served("stair 0;" + on + " by 4;" + on + " by 5;day 5;", 1, 2);
        served("stair 0;" + on + " by 1;" + on + " by 1;" + on + " by 1;", 2, 3);
        served("stair 0;" + on + " by 1;" + on + " by 1;couple 0 1;", 1, 1);
        served("stair 0;" + on + " by 0;" + on + " by 1;couple 0 1;quota 2;", 2, 3);
        served("stair 0;" + on + " by 0;" + on + " by 1;" + on + " by 0;couple 0 1;quota 2;", 2, 3);
        served("stair 0;" + on + " by 0;" + on + " by 1;" + on + " by 1;couple 0 1;quota 2;", 3, 7);
        served("stair 0;" + on + " by 1;" + on + " by 1;" + on + " by 0;couple 0 1;quota 2;", 3, 7);
        served("stair 0;" + on + " by 1;" + on + " by 1;" + on + " by 0;" + on + " by 1;couple 0 1;quota 2;", 4, 15);
        served("stair 0;" + on + " by 1;" + on + " by 1;" + on + " by 0;" + on + " by 0;" + on + " by 1;couple 0 1;quota 2;", 4, 15);
        served("stair 0;" + on + " by 1;" + on + " by 1;" + on + " by 1;" + on + " by 1;" + on + " by 0;" + on + " by 1;couple 0 1;couple 2 3;quota 3;", 6, 63);
        served("stair 0;" + on + " by 1;" + on + " by 1;" + on + " by 1;" + on + " by 1;" + on + " by 0;" + on + " by 0;couple 0 1;couple 2 3;quota 3;", 5, 31);
        served("stair 0;" + on + " by 3;may : 1 = 2;", 1, 1);
        String couples = "couple 0 1;couple 2 3;couple 4 5;couple 6 7;";
        String eight = "";
        for (int i = 0; i < 8; i++) eight += on + " by 3;";
        served("stair 0;" + eight + couples + "quota 2;", 8, 255);
        served("stair 0;" + eight + couples + "quota 3;", 8, 255);
        served("stair 0;" + eight + on + " by 3;" + couples + "quota 3;", 9, 511);
        served("stair 0;" + eight.replace("by 3", "by 2") + couples + "quota 2;", 6, 63);
        served("stair 0;" + eight + couples + "quota 1;", 4, 1 + 4 + 16 + 64);
        served("stair 5;person on 0 build 5 by 3;person on 0 build 5 by 3;", 1, 1);
        served("stair 5;person on 0 build 5 by 3;person on 0 build 4 by 3;", 1, 2);
        served("stair 5;person on 0 build 4 by 3;", -1, -1);
        String nine = "stair 0;";
        for (int i = 0; i < 9; i++) nine += on + " by 8;";
        served(nine, 9, 511);
        nine = "stair 0;";
        for (int i = 0; i < 9; i++) nine += on + " by 7;";
        served(nine, 8, 255);
        LeanStair x = told("stair 0;" + on + ";" + on + " by 0;" + on + " by 1;" + on + " by 1;couple 2 3;quota 2;");
        due("served(1)", x.served(1), 14);
        x.see(0);
        due("served(1), one seen today", x.served(1), 14);
        due("served(0)", x.served(0), 3);
        x.see(3);
        due("served(1), two seen today", x.served(1), 4);
        x.days(1);
        due("served(1), a day later", x.served(1), 4);
        x.days(1);
        due("served(1), two days later", x.served(1), 0);
        due("served(2)", x.served(2), -2);
        due("served(-1)", x.served(-1), -2);
        due("served(2), not even nobody", told("stair 1;").served(2), -2);
    }

    // ---- 25 to 30

    private static void insteadPromises() {
        promise(25);
        LeanStair x = told(TWO);
        due("instead(0)", x.instead(0), 6);
        due("instead(1)", x.instead(1), 12);
        due("instead(2)", x.instead(2), -2);
        due("instead(-1)", x.instead(-1), -2);
        x.bring(0, 9);
        x.see(2);
        due("instead(2): gone", x.instead(2), -5);
        due("instead(0), by no build", told("stair 5 200;person on 0 build 5;person on 1 build 99;person on 1 build 99;person on 1 build 2;").instead(3), 2);
        due("instead(0), by no build", told("stair 100;person on 0 build 90;").instead(0), -1);
        x = told("stair 90;person on 0 build 50 age 30;bears : build * (who + 1) + age + wed;");
        due("instead(0): its number, age 0", x.instead(0), 45);
        x = told("stair 90;person on 0 build 50 age 30;person on 0 build 50;couple 0 1;bears : build - wed * 20 + age + day;day 3;");
        due("instead(0): the other one isn't wed any more", x.instead(0), 90 - 53 - 3);
        x = told("stair 20;person on 0 build 20;bears : 20 - (build - 7) * (build - 7);");
        due("a law that isn't rising", x.instead(0), 7);
        String nine = "stair 0;";
        for (int i = 0; i < 9; i++) nine += "person on 0 build 1;";
        LeanStair full = told(nine);
        due("instead(0): there are 9", full.instead(0), -5);
        due("instead(9)", full.instead(9), -2);
        full.see(0);
        due("instead(1): there are 9, though one is gone", full.instead(1), -5);

        promise(26);
        x = told("stair 10 10;joint 0 takes 4;person on 0 build 12;person on 1 build 15;person on 1 build 6;");
        due("swap(0)", x.swap(0), 2);
        due("swap(20)", x.swap(20), 0);
        due("swap(100)", x.swap(100), -3);
        due("swap(-1)", x.swap(-1), -3);
        due("swap(0): nobody", told(TWO).swap(0), -1);
        due("swap(0): the first of like ones", told("stair 3;person on 0 build 3;person on 0 build 3;").swap(0), 0);
        due("swap(0): 0 is enough", told("stair 3;person on 0 build 3;person on 0 build 1;").swap(0), 1);
        due("swap(0), nobody there", new LeanStair().swap(0), -1);
        due("swap(1), nine", full.swap(1), -5);
        due("swap(100), nine", full.swap(100), -3);
        due("swap(3), fallen but mended by it", told("stair 3;person on 0 build 1;").swap(3), 0);

        promise(27);
        x = told("stair 4 14 6;joint 0 takes 5;joint 1 takes 8;person on 0 build 50;person on 1 build 9;person on 2 build 40;");
        int[] more = {0, 1, 2};
        due("props(0)", x.props(0), 3);
        for (int k = 0; k < 3; k++) due("props(1" + k + ")", x.props(10 + k), more[k]);
        due("props(13)", x.props(13), -2);
        due("props(9)", x.props(9), -2);
        due("props(1)", x.props(1), -2);
        due("props(-1)", x.props(-1), -2);
        x.prop(0);
        int[] then = {0, 1, 1};
        due("props(0), one there", x.props(0), 2);
        for (int k = 0; k < 3; k++) due("props(1" + k + ")", x.props(10 + k), then[k]);
        x = told("stair 999 999 999 999 999 999 999 999;");
        due("props(0), more than there can be", x.props(0), 800);
        due("props(17)", x.props(17), 100);
        due("props(0), none", told("stair 0 0;").props(0), 0);

        promise(28);
        x = told("stair 4 14 6;joint 0 takes 5;joint 1 takes 8;person on 1 build 3;");
        due("mends(0)", x.mends(0), 3);
        due("mends(10)", x.mends(10), 0);
        due("mends(11)", x.mends(11), 1);
        due("mends(12)", x.mends(12), 2);
        due("mends(13)", x.mends(13), -2);
        due("mends(2)", x.mends(2), -2);
        x = told("stair 4 14 6;joint 0 takes 5;joint 1 takes 8;person on 1 build 4;");
        due("mends(0)", x.mends(0), 2);
        due("mends(11)", x.mends(11), 1);
        due("mends(12)", x.mends(12), 1);
        due("mends(0), it stands", told(TWO).mends(0), 0);

        promise(29);
        due("sinks()", told("stair 20;person on 0 build 30;bears : build - age;").sinks(), 11);
        due("sinks(), in none", told(TWO).sinks(), -1);
        due("sinks(), now", told("stair 1;").sinks(), 0);
        due("sinks(), by the day", told("stair 3;person on 0 build 3;bears : build + day - 2;day 5;").sinks(), 2);
        due("sinks(), in 99", told("stair 1;person on 0 build 99;bears : build - age;").sinks(), 99);
        due("sinks(), in 100", told("stair 1;person on 0 build 99;bears : build - age + 1;").sinks(), -1);
        x = told("stair 0;person on 0 build 99;bears : build - age;");
        x.days(99);
        due("sinks(), never", x.sinks(), -1);

        promise(30);
        x = told("stair 10 10;person on 0 build 20;person on 1 build 15;bears : build - age;");
        due("stay(5): it is gone itself by then", x.stay(5), 0);
        due("stay(9)", x.stay(9), 1);
        due("stay(0)", x.stay(0), 0);
        due("stay(99)", x.stay(99), 1);
        due("stay(100)", x.stay(100), -3);
        due("stay(-1)", x.stay(-1), -3);
        due("stay(1), nine", full.stay(1), -5);
        due("stay(100), nine", full.stay(100), -3);
        due("stay(5), nothing helps", told("stair 50 50;").stay(5), 0);
        due("stay(9), it is mended by it", told("stair 0 9;").stay(9), 1);
        String aging = "stair 1 1;person on 0 build 99;person on 1 build 98;bears : build - age + ";
        due("stay(99), more than 99 days are as long", told(aging + "2;").stay(99), 0);
        due("stay(99), 99 days are less", told(aging + "1;").stay(99), 1);
    }

    // ---- 31 to 33

    private static void roomPromises() {
        LeanStair x = told("stair 20;person on 0 build 5;person on 0 build 10;person on 0 build 9;couple 0 1;");
        promise(31);
        due("builds(4, 0)", x.builds(4, 0), -2);
        due("builds(-1, 0)", x.builds(-1, 0), -2);
        due("builds(0, 3)", x.builds(0, 3), -2);
        due("builds(0, -1)", x.builds(0, -1), -2);
        due("builds(0, 0)", x.builds(0, 0), -6);
        x.numbers(0, 1, 0);
        due("builds(0, 0), none", x.builds(0, 0), -4);
        x.numbers(0, 1, 11);
        due("builds(0, 0), eleven", x.builds(0, 0), -4);
        x.numbers(0, 1, 10);
        due("builds(0, 0), ten", x.builds(0, 0), 1);
        tray(x, 0, 1);
        due("builds(0, 0), it stood", x.builds(0, 0), 99);
        tray(x, 0, 1, 4);
        due("builds(0, 0), and fell without the second", x.builds(0, 0), 10);
        tray(x, 0, 1, 5);
        due("builds(0, 0), and stood without the second", x.builds(0, 0), 89);
        tray(x, 0, 1, 4, 8);
        due("builds(0, 0), and fell without the third", x.builds(0, 0), 9);
        tray(x, 0, 2);
        due("builds(0, 0), itself sent out", x.builds(0, 0), 100);
        tray(x, 0, 3);
        due("builds(0, 0), itself sent out", x.builds(0, 0), 0);
        tray(x, 0, 16);
        due("builds(0, 0), one who isn't told", x.builds(0, 0), -3);
        tray(x, 0, -1);
        due("builds(0, 0), below 0", x.builds(0, 0), -3);
        tray(x, 0, 1L << 40);
        due("builds(0, 0), far above", x.builds(0, 0), -3);
        tray(x, 0, 1, 1, 1, 1, 1, 1, 1, 1, 1, 1, -1);
        due("builds(0, 0), too many first", x.builds(0, 0), -4);
        LeanStair y = told("stair 20;person on 0 build 5;person on 0 build 30;couple 0 1;bears : build + wed * 5;");
        tray(y, 1, 3);
        due("builds(1, 1), without the other one", y.builds(1, 1), 80);
        tray(y, 1, 1);
        due("builds(1, 1), by what the law tells", y.builds(1, 1), 95);
        y.see(0);
        tray(y, 1, 1);
        due("builds(1, 1)", y.builds(1, 1), 80);
        due("builds(1, 0): gone", y.builds(1, 0), -5);
        tray(y, 1, 2);
        due("builds(1, 0): a set with one who is gone first", y.builds(1, 0), -3);
        due("builds(0, 0), missing first", y.builds(0, 0), -6);

        promise(32);
        tray(x, 0, 1, 4);
        due("bound(0, 0, 0)", x.bound(0, 0, 0), 1);
        due("bound(0, 0, 1)", x.bound(0, 0, 1), 10);
        due("bound(0, 0, 2)", x.bound(0, 0, 2), -2);
        due("bound(0, 0, -1)", x.bound(0, 0, -1), -2);
        due("bound(1, 0, 2)", x.bound(1, 0, 2), -2);
        due("bound(1, 0, 0)", x.bound(1, 0, 0), -6);
        due("bound(0, 3, 0)", x.bound(0, 3, 0), -2);
        due("bound(5, 0, 0)", x.bound(5, 0, 0), -2);
        tray(x, 0, 3);
        due("bound(0, 0, 0), none", x.bound(0, 0, 0), -1);
        due("bound(0, 0, 1), none", x.bound(0, 0, 1), -1);
        x.numbers(0, 1, 0);
        due("bound(0, 0, 0)", x.bound(0, 0, 0), -4);
        tray(x, 0, 99);
        due("bound(0, 0, 0)", x.bound(0, 0, 0), -3);
        tray(y, 1, 1);
        due("bound(1, 0, 0)", y.bound(1, 0, 0), -5);

        promise(33);
        // 1 to 99 are left: without the second one 11 to 99 stand, without the third 10 to 99.
        tray(x, 0, 1);
        due("trial(0, 0)", x.trial(0, 0), 1);
        tray(x, 0, 1, 4);
        due("trial(0, 0), 1 to 10 are left", x.trial(0, 0), 2);
        tray(x, 0, 1, 4, 8);
        due("trial(0, 0), the first of like ones", x.trial(0, 0), 1);
        due("trial(0, 1), 6 to 14 are left", x.trial(0, 1), 0);
        tray(x, 0, 3);
        due("trial(0, 0), no builds", x.trial(0, 0), -1);
        due("trial(0, 5)", x.trial(0, 5), -2);
        due("trial(4, 0)", x.trial(4, 0), -2);
        due("trial(3, 0)", x.trial(3, 0), -6);
        x.numbers(3, 1, 11);
        due("trial(3, 0)", x.trial(3, 0), -4);
        tray(x, 3, 64);
        due("trial(3, 0)", x.trial(3, 0), -3);
        due("trial(1, 1), nobody else", y.trial(1, 1), -1);
        due("trial(1, 0), gone", y.trial(1, 0), -5);
    }

    // ---- 34 to 36

    private static void game(String text, int wins, int best, int lasts) {
        LeanStair x = told(text);
        due("wins() of " + text, x.wins(), wins);
        due("best() of " + text, x.best(), best);
        due("lasts() of " + text, x.lasts(), lasts);
    }

    private static void gamePromises() {
        promise(34);
        String on = "person on 0 build 1;";
        game("stair 0;", 0, -1, 0);
        game("stair 0;" + on, 1, 0, 1);
        game("stair 0;" + on + on, 0, -1, 2);
        game("stair 1;" + on, 0, -1, 1);
        game("stair 1;" + on + on, 1, 0, 2);
        game("stair 1;" + on + on + on, 0, -1, 3);
        game("stair 0;" + on + on + on + "quota 1;may : 1 = 2;", 1, 0, 3);
        promise(35);
        // Without 0 the others just hold it: whoever is next falls.
        game("stair 5;person on 0 build 5;person on 0 build 4;person on 0 build 1;", 1, 0, 2);
        game("stair 5;person on 0 build 4;person on 0 build 1;person on 0 build 5;", 1, 2, 2);
        game("stair 5;person on 0 build 1;person on 0 build 6;", 1, 0, 2);
        game("stair 5;person on 0 build 1;person on 0 build 6;couple 0 1;bears : build - 2 + wed * 2;", 0, -1, 1);
        promise(36);
        // It wins by 0 too, but soonest by 3, without whom the others just hold it.
        game("stair 3;" + on + on + on + "person on 0 build 3;", 1, 0, 2);
        // It loses; by seeing a 1 it lasts for three, by seeing the 3 for one.
        game("stair 3;" + on + on + "person on 0 build 3;", 0, -1, 3);
        LeanStair x = told("stair 1;");
        promise(34);
        due("wins(), fallen", x.wins(), -5);
        promise(35);
        due("best(), fallen", x.best(), -5);
        promise(36);
        due("lasts(), fallen", x.lasts(), -5);
    }

    // ---- 37 to 40

    private static void sharePromises() {
        promise(37);
        LeanStair x = told("stair 3;person on 0 build 2;person on 0 build 1;person on 0 build 1;person on 0 build 0;");
        int[][] shares = {{3, 4}, {1, 4}, {1, 4}, {0, 1}};
        for (int p = 0; p < 4; p++) for (int what = 0; what < 2; what++) due("share(" + p + ", " + what + ")", x.share(p, what), shares[p][what]);
        due("share(4, 0)", x.share(4, 0), -2);
        due("share(-1, 0)", x.share(-1, 0), -2);
        due("share(0, 2)", x.share(0, 2), -2);
        due("share(0, -1)", x.share(0, -1), -2);
        x.see(3);
        due("share(3, 0): gone", x.share(3, 0), -5);
        due("share(3, 2): no such first", x.share(3, 2), -2);
        due("share(0, 1)", x.share(0, 1), 4);
        due("share(0, 0) of one alone", told("stair 1;person on 0 build 1;").share(0, 0), 1);
        due("share(0, 1) of one alone", told("stair 1;person on 0 build 1;").share(0, 1), 1);
        x = told("stair 4;person on 0 build 4;person on 0 build 4;couple 0 1;bears : build - wed * 3;");
        due("share(0, 0): with the other one it isn't", x.share(0, 0), 1);
        due("share(0, 1)", x.share(0, 1), 2);

        promise(38);
        due("pillar()", told("stair 3;person on 0 build 1;person on 0 build 2;person on 0 build 1;").pillar(), 1);
        due("pillar(), the first", told("stair 1;person on 0 build 0;person on 0 build 1;person on 0 build 1;").pillar(), 1);
        due("pillar(), all 0", told("stair 0;person on 0 build 0;person on 0 build 1;").pillar(), 0);
        due("pillar(), nobody", new LeanStair().pillar(), -1);
        x = told("stair 0;person on 0 build 0;person on 0 build 1;");
        x.see(0);
        due("pillar(), who is there", x.pillar(), 1);

        promise(39);
        x = told("stair 3;person on 0 build 2 frail 5;person on 0 build 1 frail 2;person on 0 build 1 frail 3;");
        // With 0 (5 in 10) and 1 or 2 (94 in 100): 47 in 100.
        due("chance(0)", x.chance(0), 47);
        due("chance(1)", x.chance(1), 100);
        due("chance(2)", x.chance(2), -2);
        due("chance(-1)", x.chance(-1), -2);
        x = told("stair 3;person on 0 build 3 frail 10;");
        due("chance(0), it fails for sure", x.chance(0), 0);
        due("chance(1), it fails for sure", x.chance(1), 1);
        due("chance(0), it can't fail", told(TWO).chance(0), 1);
        due("chance(1), it can't fail", told(TWO).chance(1), 1);
        due("chance(0), fallen", told("stair 1;").chance(0), 0);
        due("chance(1), fallen", told("stair 1;").chance(1), 1);
        String nine = "stair 9;";
        for (int i = 0; i < 9; i++) nine += "person on 0 build 1 frail 1;";
        due("chance(0), nine", told(nine).chance(0), 387420489);
        due("chance(1), nine", told(nine).chance(1), 1000000000);
        x = told("stair 4;person on 0 build 4 frail 5;person on 0 build 4 frail 5;couple 0 1;bears : build - wed * 3;");
        due("chance(0): just one of both", x.chance(0), 1);
        due("chance(1)", x.chance(1), 2);

        promise(40);
        x = told("stair 5 5;person on 0 build 5 frail 1;person on 1 build 5 frail 5;");
        due("where(5)", x.where(5), 1);
        due("where(0)", x.where(0), 0);
        due("where(4)", x.where(4), 0);
        due("where(100)", x.where(100), -3);
        due("where(-1)", x.where(-1), -3);
        due("where(7), by the law", told("stair 5 5;person on 0 build 5 frail 1;person on 1 build 7 frail 5;bears : build - who - step;").where(7), 0);
        due("where(7), by the law", told("stair 5 4;person on 0 build 5 frail 1;person on 1 build 6 frail 5;bears : build - who - step;").where(7), 1);
        due("where(9), fallen", told("stair 0 9;").where(9), 1);
        due("where(9), nobody helps", told("stair 99 99;").where(9), 0);
        nine = "stair 0;";
        for (int i = 0; i < 9; i++) nine += "person on 0 build 1;";
        due("where(1), nine", told(nine).where(1), -5);
        due("where(100), nine", told(nine).where(100), -3);
    }

    // ---- 41 to 46

    private static void trayPromises() {
        promise(41);
        LeanStair x = told(TWO);
        due("numbers(-1, 0, 1)", x.numbers(-1, 0, 1), -2);
        due("numbers(4, 0, 1)", x.numbers(4, 0, 1), -2);
        due("numbers(0, 4, 1)", x.numbers(0, 4, 1), -2);
        due("numbers(0, -1, 1)", x.numbers(0, -1, 1), -2);
        due("numbers(0, 0, 41)", x.numbers(0, 0, 41), -3);
        due("numbers(0, 0, -1)", x.numbers(0, 0, -1), -3);
        due("numbers(0, 4, 41)", x.numbers(0, 4, 41), -2);
        due("write(0, 0, 1)", x.write(0, 0, 1), -6);
        due("numbers(0, 2, 40)", x.numbers(0, 2, 40), 0);
        due("write(0, 39, 9)", x.write(0, 39, 9), 9);
        due("write(0, 40, 9)", x.write(0, 40, 9), -7);
        due("write(0, 0, 300)", x.write(0, 0, 300), 300);
        due("numbers(0, 0, 41)", x.numbers(0, 0, 41), -3);
        due("it stays", x.judge(0, 0), 0);
        due("it stays", x.write(0, 39, 70000), 70000);
        due("numbers(0, 0, 1)", x.numbers(0, 0, 1), 0);
        due("all 0: the first is seen", x.judge(0, 2), 2);
        due("write(0, 1, 9)", x.write(0, 1, 9), -7);
        due("numbers(0, 0, 0)", x.numbers(0, 0, 0), 0);
        due("lists(0)", x.lists(0), 0);

        promise(42);
        due("write(-1, 0, 0)", x.write(-1, 0, 0), -2);
        due("write(4, 0, 0)", x.write(4, 0, 0), -2);
        due("write(3, 0, 0)", x.write(3, 0, 0), -6);
        due("write(0, 0, 0)", x.write(0, 0, 0), -7);
        long[][] cuts = {{-128, 127, -1, 0x34}, {-32640, 32767, -1, 0x1234}, {-2139062144, 2147483647, -1, 0x12341234}, {0x8080808080808080L, 0x7fffffffffffffffL, -1, 0x1234123412341234L}};
        for (int sort = 0; sort < 4; sort++) {
            x.numbers(1, sort, 2);
            due("write(1, 0, 0x80..), sort " + sort, x.write(1, 0, 0x8080808080808080L), cuts[sort][0]);
            due("write(1, 1, 0x7f..), sort " + sort, x.write(1, 1, 0x7fffffffffffffffL), sort == 3 ? cuts[3][1] : -1);
            due("write(1, 1, " + cuts[sort][1] + "), sort " + sort, x.write(1, 1, cuts[sort][1]), cuts[sort][1]);
            due("write(1, 1, -1), sort " + sort, x.write(1, 1, -1), cuts[sort][2]);
            due("write(1, 1, 0x1234..), sort " + sort, x.write(1, 1, 0x1234123412341234L), cuts[sort][3]);
            due("write(1, -1, 0)", x.write(1, -1, 0), -7);
            due("write(1, 2, 0)", x.write(1, 2, 0), -7);
        }
        x.numbers(1, 0, 1);
        x.write(1, 0, 200);
        due("200 in 8 bits is no deed", x.judge(1, 1), 1);

        promise(43);
        due("lists(4)", x.lists(4), -2);
        due("lists(-1)", x.lists(-1), -2);
        due("lists(3)", x.lists(3), -6);
        LeanStair y = told("stair 0 0 0 0;person on 0 build 50;person on 1 build 50;person on 2 build 50;person on 3 build 50;bears : (who + 1) * 50;");
        y.numbers(2, 1, 3);
        due("lists(2)", y.lists(2), 3);
        due("50, 100, 150: 50 and the like are no deeds", y.judge(2, 0), 0);
        y = told("stair 0 0 0;person on 0 build 1;person on 1 build 1;person on 2 build 1;bears : who * (who + 100) + (1 - who) * 110 + who * (who - 1) * 100 - (1 - who) * 10;");
        // 100: PERSON 0 moves to STEP 0, where it is; so it can't be, for 2.
        y.numbers(2, 1, 8);
        due("lists(2)", y.lists(2), 3);
        due("the first is 100", y.judge(2, 1), 2);
        y = told("stair 0 0;person on 0 build 2;person on 1 build 1;");
        y.prop(1);
        y.numbers(2, 1, 2);
        due("lists(2)", y.lists(2), 2);
        due("2 is nobody", y.judge(2, 1), 1);
        y = told("stair 0 0 0;person on 0 build 1;person on 0 build 0;person on 0 build 0;quota 9;");
        tray(y, 0, 5, 5, 5, 2);
        due("lists(0)", y.lists(0), 3);
        due("1, 0, 0, and the fourth stays", y.judge(0, 0) * 100 + y.judge(0, 2), 204);
        y = told("stair 0 0;person on 0 build 99;bears : 300;");
        y.numbers(0, 0, 2);
        due("lists(0)", y.lists(0), 2);
        due("300 cut to 44", y.judge(0, 0), 0);
        y = told("stair 0 0;person on 0 build 99;person on 1 build 3;bears : 257 - who * 257;quota 5;");
        y.numbers(0, 0, 2);
        due("lists(0)", y.lists(0), 2);
        due("257 cut to 1, and 0", y.judge(0, 0), -1);
        due("both gone", y.judge(0, 2), 0);

        promise44();
        promise46();
    }

    private static void promise44() {
        promise(44);
        LeanStair x = told(TWO);
        due("image(2)", x.image(2), -2);
        due("image(-1)", x.image(-1), -2);
        x.prop(1);
        x.days(2);
        due("image(0)", x.image(0), 0);
        due("count(10): what can be undone stays", x.count(10), 2);
        promise(45);
        due("restore(2)", x.restore(2), -2);
        due("restore(-1)", x.restore(-1), -2);
        due("restore(1)", x.restore(1), -5);
        x.bring(0, 9);
        x.see(2);
        x.see(0);
        x.undo(1);
        tell(x, "stair 3;day 7;quota 4;person on 0 build 50;bears : build - 1;");
        x.image(1);
        x.see(0);
        due("fallen", x.count(3), 1);
        x.feed(0, 0, 0, 0, 0);
        x.numbers(3, 0, 2);
        due("restore(0)", x.restore(0), 0);
        int[] counts = {2, 2, 3, 0, 0, 1, 1, 2, 20, 33, 0, 20, 4};
        for (int what = 0; what < counts.length; what++) due("count(" + what + ")", x.count(what), counts[what]);
        due("undo(1)", x.undo(1), -3);
        due("the tray stays", x.write(3, 1, 5), 5);
        due("step(0, 4)", x.step(0, 4), 4);
        due("person(1, 2)", x.person(1, 2), 2);
        x.move(1, 0);
        due("restore(0) again", x.restore(0), 0);
        due("as it was", x.person(1, 0), 1);
        due("restore(1)", x.restore(1), 0);
        int[] others = {1, 1, 1, 0, 0, 4, 0, 7, 3, 49, 0, 20, 5};
        for (int what = 0; what < others.length; what++) due("count(" + what + ")", x.count(what), others[what]);
        x.see(0);
        x.image(0);
        x.undo(1);
        due("standing", x.stands(), 1);
        x.restore(0);
        due("fallen as it was", x.stands(), 0);
        due("count(4)", x.count(4), 1);
        due("undo(1)", x.undo(1), -3);
    }

    private static void promise46() {
        promise(46);
        LeanStair x = told("stair 7 8 9;joint 0 takes 3;joint 1 takes 3;person on 0 build 20;person on 1 build 21;person on 2 build 22;person on 2 build 2;quota 3;day 30;");
        x.prop(0);
        x.prop(2);
        x.days(2);
        x.see(3);
        x.bring(1, 5);
        x.feed(1, 2, 3, 4, 5);
        int[] counts = {3, 5, 0b10111, 0, 1, 3, 2, 32, 24, 88, 5, 20, 9};
        for (int what = 0; what < counts.length; what++) due("count(" + what + ")", x.count(what), counts[what]);
        due("count(13)", x.count(13), -1);
        due("count(-1)", x.count(-1), -1);
        x.see(0);
        x.see(1);
        due("count(4)", x.count(4), 3);
    }
}
