/** Each sentence of the document that names an edge of what can be asked: ==== 3., promises 19 to 40. */
public final class EdgesOfQuestionsTest extends Runs {
    private static final String ON = "person on 0 build 1;";
    private static final String NINE = "stair 0;" + ON.repeat(9);
    private static final String EIGHT = "stair 0;" + ON.repeat(8);
    /** A step of 10 and three of 4, 6 and 10; the first two are a couple. */
    private static final String THREE = "stair 10;person on 0 build 4;person on 0 build 6;person on 0 build 10;couple 0 1;quota 2;";
    /** Four of 3, 2, 2 and 1 on a step of 4. */
    private static final String FOUR = "stair 4;person on 0 build 3 by 9;person on 0 build 2 by 9;person on 0 build 2 by 9;person on 0 build 1 by 9;quota 9;";
    /** The two bear less together than either alone. */
    private static final String GRUDGE = "stair 4;person on 0 build 4;person on 0 build 4;couple 0 1;bears : build - wed * 3;";

    public static void main(String[] args) {
        holding();
        fewest();
        holdings();
        needed();
        most();
        serving();
        couplesServed();
        instead();
        swap();
        props();
        mends();
        sinks();
        stay();
        trials();
        bounds();
        nextTrial();
        game();
        shares();
        pillars();
        chances();
        places();
        finish();
    }

    private static void holding() {
        about("promise 19: -3: others are in it");
        run(THREE, "holds(0)=0 holds(7)!1 holds(8)!-3 holds(15)!-3 holds(-1)!-3 holds(2147483647)!-3 holds(-2147483648)!-3 holds(3)=1 holds(2)=0 see(0)=2 holds(1)!-3 holds(7)!-3 holds(6)=1 holds(4)=1 holds(2)=0");
        run(NINE, "holds(511)=1 holds(0)=1 holds(512)!-3 holds(1023)!-3");
        run(null, "holds(0)=1 holds(1)!-3");
        run(EIGHT, "holds(256)!-3 bring(0,0)=8 holds(256)=1 undo(1)=0 holds(256)!-3");
        about("HOLDING: nobody else there, today, wed by these");
        run("stair 4;person on 0 build 3;person on 0 build 1;", "holds(3)=1 holds(1)=0 holds(2)=0");
        run("stair 10;person on 0 build 11;person on 0 build 10;bears : build - age;", "holds(1)=1 holds(2)=1 days(1)=1 holds(1)=1 holds(2)=0 days(1)=1 holds(1)=0 holds(2)=0 holds(3)=1");
        run(GRUDGE, "stands()=0 holds(3)=0 holds(1)=1 holds(2)=1 holds(0)=0");
        run("stair 7;person on 0 build 2;person on 0 build 3;couple 0 1;bears : build + wed;", "stands()=1 holds(3)=1 holds(1)=0 holds(2)=0");
        run("stair 8;person on 0 build 2;person on 0 build 3;couple 0 1;bears : build + wed;", "stands()=0 holds(3)=0");
    }

    private static void fewest() {
        about("promise 20: -2: what, also where none is");
        run(THREE, "fewest(0)!1 fewest(1)!4 fewest(2)!-2 fewest(-1)!-2 fewest(2147483647)!-2 fewest(-2147483648)!-2");
        run("stair 9;" + ON, "fewest(0)=-1 fewest(1)=-1 fewest(2)!-2 fewest(-1)!-2");
        about("the HOLDING of the fewest, of like ones the least set");
        run(NINE, "fewest(0)=0 fewest(1)=0");
        run(NINE.replace("stair 0", "stair 1"), "fewest(0)=1 fewest(1)=1");
        run(NINE.replace("stair 0", "stair 9"), "fewest(0)=9 fewest(1)=511");
        run("stair 4;person on 0 build 1;person on 0 build 2;person on 0 build 2;person on 0 build 3;", "fewest(0)=2 fewest(1)=6");
        run(GRUDGE, "fewest(0)=1 fewest(1)=1");
    }

    private static void holdings() {
        about("promise 21: how many HOLDINGS there are");
        run(null, "holdings()=1");
        run(NINE, "holdings()!512 see(0)=8 holdings()=256");
        run(NINE.replace("stair 0", "stair 9"), "holdings()=1");
        run(NINE.replace("stair 0", "stair 10"), "holdings()=0");
        run(NINE.replace("stair 0", "stair 8"), "holdings()=10");
        run(GRUDGE, "holdings()=2");
    }

    private static void needed() {
        about("promise 22: as bits (0: it doesn't anyhow)");
        run(NINE.replace("stair 0", "stair 9"), "needed()!511");
        run(NINE.replace("stair 0", "stair 8"), "needed()=0 see(8)=8 needed()=255");
        run(NINE.replace("stair 0", "stair 10"), "needed()=0");
        run(NINE, "needed()=0");
        run(null, "needed()=0");
        run(GRUDGE, "needed()=0");
        run("stair 4;person on 0 build 4;person on 0 build 0;", "needed()=1");
    }

    private static void most() {
        about("promise 23: -2: what, also where no set is");
        run(THREE, "most(0)!2 most(1)!3 most(2)!-2 most(-1)!-2 most(2147483647)!-2 most(-2147483648)!-2");
        run("stair 9;" + ON, "most(0)=-1 most(1)=-1 most(2)!-2 most(-1)!-2");
        about("the most who could be gone, of like ones the least set");
        run(NINE, "most(0)=9 most(1)=511");
        run(NINE.replace("stair 0", "stair 9"), "most(0)=0 most(1)=0");
        run(NINE.replace("stair 0", "stair 8"), "most(0)=1 most(1)=1");
        run(FOUR, "most(0)=2 most(1)=6");
        run(null, "most(0)=0 most(1)=0");
        run(GRUDGE, "most(0)=1 most(1)=1");
    }

    private static void serving() {
        about("promise 24: -2: what, also where none is; NONE: not even nobody");
        run(FOUR, "served(0)!2 served(1)!6 served(2)!-2 served(-1)!-2 served(2147483647)!-2 served(-2147483648)!-2");
        run("stair 9;" + ON, "served(0)=-1 served(1)=-1 served(2)!-2 served(-1)!-2");
        run("stair 4;person on 0 build 3 by 9;", "served(0)=-1 served(1)=-1");
        about("SERVING: have a by, on a DAY not behind it");
        String by5 = "stair 0;person on 0 build 1 by 5;day ";
        run("stair 0;" + ON, "served(0)=0 served(1)=0");
        run(by5 + "4;", "served(0)=1 days(1)=1 served(0)=1 days(1)=1 served(0)=0 served(1)=0");
        run(by5 + "5;", "served(0)=1");
        run(by5 + "6;", "served(0)=0");
        run("stair 0;person on 0 build 1 by 0;", "served(0)=1");
        run("stair 0;person on 0 build 1 by 999;day 999;", "served(0)=1 days(1)=1 served(0)=0");
        run("stair 0;", "bring(0,1)=0 served(0)=0");
        about("SERVING: at most quota a DAY");
        run("stair 0;" + "person on 0 build 1 by 0;".repeat(3), "served(0)=1 served(1)=1");
        run("stair 0;" + "person on 0 build 1 by 0;".repeat(3) + "quota 2;", "served(0)=2 served(1)=3");
        run("stair 0;" + "person on 0 build 1 by 0;".repeat(3) + "quota 3;", "served(0)=3 served(1)=7");
        run("stair 0;" + "person on 0 build 1 by 7;".repeat(9), "served(0)=8 served(1)=255");
        run("stair 0;" + "person on 0 build 1 by 8;".repeat(9), "served(0)=9 served(1)=511");
        run("stair 0;" + "person on 0 build 1 by 0;".repeat(9) + "quota 9;", "served(0)=9 served(1)=511");
        about("SERVING: by their days, in whatever order they are told");
        run(byDays(2, 1, 0), "served(0)=3 served(1)=7");
        run(byDays(0, 2, 1), "served(0)=3 served(1)=7");
        run(byDays(1, 2, 0), "served(0)=3 served(1)=7");
        run(byDays(1, 1, 1), "served(0)=2 served(1)=3");
        run(byDays(3, 0, 3, 1, 1), "served(0)=4 served(1)=15");
        run(byDays(5, 4, 3, 2, 1, 0), "served(0)=6 served(1)=63");
        run(byDays(5, 4, 3, 2, 1, 1), "served(0)=6 served(1)=63");
        run(byDays(5, 4, 3, 1, 1, 1), "served(0)=5 served(1)=31");
        run(byDays(1, 1, 0, 0) + "couple 0 1;couple 2 3;quota 2;", "served(0)=4 served(1)=15");
        run(byDays(0, 1, 0, 1) + "couple 0 1;couple 2 3;quota 2;", "served(0)=3 served(1)=11");
        run(byDays(2, 2, 0, 0, 1, 1) + "couple 0 1;couple 2 3;couple 4 5;quota 2;", "served(0)=6 served(1)=63");
        run(byDays(2, 2, 1, 1, 1, 1) + "couple 0 1;couple 2 3;couple 4 5;quota 2;", "served(0)=6 served(1)=63");
        run(byDays(2, 2, 1, 1, 1, 1, 0) + "couple 0 1;couple 2 3;couple 4 5;quota 3;", "served(0)=7 served(1)=127");
        about("SERVING: those SEEN today counted");
        run("stair 0;" + ON + "person on 0 build 1 by 0;person on 0 build 1 by 1;", "served(1)=6 see(0)=2 served(0)=1 served(1)=4 days(1)=1 served(1)=4");
        run("stair 0;" + ON + "person on 0 build 1 by 0;person on 0 build 1 by 0;quota 2;", "served(1)=6 see(0)=2 served(1)=2 undo(1)=0 served(1)=6");
        run("stair 0;" + ON + "person on 0 build 1 by 8;".repeat(8), "see(0)=8 served(0)=8 served(1)=510");
        about("SERVING: the law may aside");
        run("stair 0;person on 0 build 1 by 0;may : 1 = 2;", "see(0)!-14 served(0)=1");
        about("SERVING: all others there a HOLDING");
        run("stair 5;person on 0 build 5 by 3;person on 0 build 5 by 3;", "served(0)=1 served(1)=1");
        run("stair 5;person on 0 build 5 by 3;person on 0 build 4 by 3;", "served(0)=1 served(1)=2");
        run("stair 5;person on 0 build 5;person on 0 build 4 by 3;", "served(0)=1 served(1)=2 see(1)=1 served(0)=0");
    }

    /** One on the step for each day by which one wants to be seen. */
    private static String byDays(int... days) {
        StringBuilder text = new StringBuilder("stair 0;");
        for (int by : days) text.append("person on 0 build 1 by ").append(by).append(';');
        return text.toString();
    }

    private static void couplesServed() {
        about("SERVING: two of one couple, if both are of the set, on one DAY");
        String two = "stair 0;person on 0 build 1 by 0;person on 0 build 1 by 1;couple 0 1;";
        run(two, "served(0)=1 served(1)=1");
        run(two + "quota 2;", "served(0)=2 served(1)=3");
        run("stair 0;person on 0 build 1 by 5;person on 0 build 1 by 5;couple 0 1;", "served(0)=1 served(1)=1");
        run(two + ON + "quota 2;", "see(2)=2 served(0)=1 served(1)=1");
        run(two + ON + "quota 3;", "see(2)=2 served(0)=2 served(1)=3");
        run("stair 0;person on 0 build 1 by 1;person on 0 build 1 by 1;couple 0 1;" + ON + "quota 2;", "see(2)=2 served(1)=3");
        run("stair 0;person on 0 build 1 by 1;person on 0 build 1 by 0;couple 0 1;" + ON + "quota 2;", "see(2)=2 served(1)=1");
        run("stair 0;person on 0 build 1 by 1;person on 0 build 1;couple 0 1;", "served(0)=1 served(1)=1");
        run("stair 0;person on 0 build 1 by 1;person on 0 build 1 by 0;couple 0 1;", "see(0)=1 served(0)=0 undo(1)=0 see(1)=1 served(0)=1 served(1)=1");
        run("stair 0;person on 0 build 1 by 6;person on 0 build 1 by 5;couple 0 1;day 6;quota 2;", "served(0)=1 served(1)=1");
        String eight = "person on 0 build 1 by 3;".repeat(8) + "couple 0 1;couple 2 3;couple 4 5;couple 6 7;";
        run("stair 0;" + eight + "person on 0 build 1 by 3;quota 2;", "served(0)=8 served(1)=255");
        run("stair 0;" + eight + "person on 0 build 1 by 4;quota 2;", "served(0)=9 served(1)=511");
        run("stair 0;" + eight + "quota 1;", "served(0)=4 served(1)=85");
        run("stair 0;" + eight + "quota 2;", "served(0)=8 served(1)=255");
        run("stair 0;" + eight.replace("by 3", "by 2") + "quota 2;", "served(0)=6 served(1)=63");
        run("stair 0;" + eight.replace("by 3", "by 2") + "quota 3;", "served(0)=7 served(1)=127");
    }

    private static void instead() {
        about("promise 25: -2; -5: the PERSON isn't there, there are 9");
        run(THREE, "instead(0)!0 instead(3)!-2 instead(-1)!-2 instead(2147483647)!-2 instead(-2147483648)!-2 see(0)=2 instead(0)!-5 instead(3)!-2 instead(2)=4");
        run(NINE, "instead(0)!-5 instead(8)!-5 instead(9)!-2 instead(-1)!-2 see(0)=8 instead(0)!-5 instead(1)!-5");
        run(EIGHT, "instead(0)=0 bring(0,1)=8 instead(0)!-5 see(8)=8 instead(0)!-5 undo(2)=0 instead(7)=0");
        about("the least build (0 to 99); NONE: by none");
        run("stair 0;" + ON, "instead(0)=0");
        run("stair 1;" + ON, "instead(0)=1");
        run("stair 99;" + ON, "instead(0)=99");
        run("stair 100;person on 0 build 99;", "instead(0)=-1");
        run("stair 100;person on 0 build 99;" + ON, "instead(0)=99 instead(1)=1");
        run("stair 0 5;" + ON, "instead(0)=-1");
        run("stair 20;person on 0 build 99;bears : 20 - (build - 7) * (build - 7);", "instead(0)=7");
        run("stair 2;" + ON + "bears : who;", "stands()=0 instead(0)=-1 bring(0,0)!-12");
        run("stair 1;" + ON + "bears : who;", "instead(0)=0");
        run("stair 50;person on 0 build 60;bears : build - age - wed;", "instead(0)=50 swap(50)=0 swap(49)=-1 days(5)=5 instead(0)=50");
    }

    private static void swap() {
        about("promise 26: a told build (0 to 99); -3; -5: there are 9");
        run(THREE, "swap(0)!0 swap(99)!0 swap(100)!-3 swap(-1)!-3 swap(2147483647)!-3 swap(-2147483648)!-3");
        run(NINE, "swap(0)!-5 swap(99)!-5 swap(100)!-3 swap(-1)!-3 see(0)=8 swap(0)!-5");
        run(EIGHT, "swap(0)=0 bring(0,0)=8 swap(0)!-5");
        about("most to SPARE, 0 at least, the first; NONE: nobody");
        run("stair 3;person on 0 build 3;", "swap(2)=-1 swap(3)=0 swap(4)=0");
        run("stair 3;person on 0 build 2;", "swap(2)=-1 swap(3)=0");
        run("stair 3;person on 0 build 3;person on 0 build 2;person on 0 build 2;", "swap(0)=1");
        run("stair 4;person on 0 build 3;person on 0 build 2;person on 0 build 2;", "swap(0)=1 swap(1)=1");
        run("stair 6;person on 0 build 3;person on 0 build 2;person on 0 build 2;", "swap(0)=-1 swap(1)=1");
        run(null, "swap(0)=-1 swap(99)=-1 swap(100)!-3");
        run("stair 5;person on 0 build 5 age 0;bears : build - age;", "swap(5)=0 swap(4)=-1");
        run("stair 5;person on 0 build 5;day 6;bears : build + day - 6;", "swap(5)=0 swap(4)=-1");
        run("stair 0;" + ON, "see(0)=0 swap(5)=-1");
    }

    private static void props() {
        about("promise 27: -2: what (10 and a STEP)");
        run("stair 5 15 25;", "props(0)!6 props(10)!1 props(11)!2 props(12)!3 props(13)!-2 props(9)!-2 props(1)!-2 props(-1)!-2 props(2147483647)!-2 props(-2147483648)!-2");
        run("stair 1 1 1 1 1 1 1 1;", "props(17)=1 props(18)!-2");
        run("stair 0;", "props(10)=0 props(11)!-2");
        about("PROPS more by which it would STAND with nobody there");
        run("stair 0;" + ON, "props(0)=0");
        run("stair 1;" + ON, "props(0)=1");
        run("stair 10;" + ON, "props(0)=1");
        run("stair 11;" + ON, "props(0)=2");
        run("stair 20;person on 0 build 99;", "props(0)=2 prop(0)=1 props(0)=1 prop(0)=2 props(0)=0 prop(0)=3 props(0)=0");
        about("PROPS more (however many there are)");
        run("stair 0 999;person on 1 build 99;bears : 999;", "prop(0)*99=99 prop(1)!-12 props(0)=100 props(10)=0 props(11)=100");
        run("stair 999 999 999 999 999 999 999 999;", "props(0)=800 props(10)=100 props(17)=100");
        about("the fewest, of like ones the first by STEPS (fewer on STEP 0 first)");
        run("stair 5 5;joint 0 takes 5;", "props(0)=1 props(10)=0 props(11)=1");
        run("stair 5 5;joint 0 takes 4;", "props(0)=2 props(10)=1 props(11)=1");
        run("stair 5 0 5;joint 0 takes 5;joint 1 takes 5;", "props(0)=1 props(10)=0 props(11)=0 props(12)=1");
        run("stair 5 0 5;joint 0 takes 5;joint 1 takes 4;", "props(0)=2 props(10)=0 props(11)=1 props(12)=1");
        run("stair 10 10 10;joint 0 takes 20;joint 1 takes 19;", "props(0)=3 props(10)=0 props(11)=1 props(12)=2");
        run("stair 10 10 10;joint 0 takes 10;joint 1 takes 20;", "props(0)=3 props(10)=0 props(11)=0 props(12)=3");
        run("stair 6 6 6;joint 0 takes 4;joint 1 takes 4;", "props(0)=2 props(10)=1 props(11)=0 props(12)=1");
    }

    private static void mends() {
        about("promise 28: -2: what");
        run("stair 5 15 25;" + ON, "mends(0)!6 mends(10)!1 mends(11)!2 mends(12)!3 mends(13)!-2 mends(9)!-2 mends(1)!-2 mends(-1)!-2 mends(2147483647)!-2 mends(-2147483648)!-2");
        about("PROPS more by which it would STAND with all who are there");
        run("stair 10;person on 0 build 10;", "mends(0)=0 props(0)=1");
        run("stair 10;person on 0 build 9;", "mends(0)=1 mends(10)=1");
        run("stair 11;" + ON, "mends(0)=1 props(0)=2");
        run("stair 12;" + ON, "mends(0)=2");
        run("stair 5 5;joint 0 takes 5;person on 0 build 99;", "mends(0)=0");
        run("stair 5 5;joint 0 takes 4;person on 0 build 99;", "mends(0)=1 mends(10)=0 mends(11)=1");
        run(GRUDGE, "mends(0)=1 props(0)=1");
        run(null, "mends(0)=0 mends(10)=0 mends(11)!-2");
    }

    private static void sinks() {
        String older = "stair 1;person on 0 build 99;bears : build - age";
        about("promise 29: 0 to 99; NONE: in none");
        run(older + ";", "sinks()!99 days(1)=1 sinks()=98 days(97)=97 sinks()=1 days(1)=1 sinks()=0 stands()=0 sinks()=0");
        run(older + " + 1;", "sinks()=-1 days(1)=1 sinks()=99");
        run("stair 1;person on 0 build 1 age 1;bears : build - age;", "sinks()=0");
        run("stair 1;person on 0 build 2 age 0;bears : build - age;", "sinks()=2 days(2)=2 stands()=0");
        run(null, "sinks()=-1");
        about("it doesn't STAND first");
        run("stair 3;person on 0 build 1;bears : day;day 3;", "sinks()=4 days(4)=4 stands()=0");
        run("stair 1;person on 0 build 1;bears : day;day 999;", "sinks()=2");
        about("those there as now");
        run("stair 2;" + ON.repeat(3) + "bears : build - age * who;", "sinks()=1 see(1)=2 sinks()=1 see(0)!-13");
        run("stair 1;" + ON.repeat(2) + "couple 0 1;bears : build + wed - age;", "sinks()=2 see(1)=1 sinks()=1");
    }

    private static void stay() {
        about("promise 30: a build (0 to 99); -3; -5: there are 9");
        run("stair 10 10;person on 0 build 20;person on 1 build 15;bears : build - age;", "stay(0)!0 stay(99)!1 stay(100)!-3 stay(-1)!-3 stay(2147483647)!-3 stay(-2147483648)!-3");
        run(NINE, "stay(0)!-5 stay(99)!-5 stay(100)!-3 stay(-1)!-3");
        run(EIGHT, "stay(0)=0 bring(0,0)=8 stay(0)!-5 stay(100)!-3 see(0)=8 stay(0)!-5");
        about("the STEP to which one would let it STAND longest, the first");
        run("stair 10 10;person on 0 build 20;person on 1 build 15;bears : build - age;", "stay(5)=0 stay(6)=0 stay(7)=1");
        run("stair 9 9;", "stay(8)=0 stay(9)=0 stay(99)=0");
        run("stair 0 9;", "stay(8)=0 stay(9)=1 stay(99)=1");
        run("stair 0 0 0 0 0 0 0 9;", "stay(9)=7 stay(8)=0");
        run("stair 0 9;bears : build - wed;", "stay(9)=1 where(9)=1 stay(8)=0");
        run("stair 0 9;person on 1 build 0;bears : age * 9 * (1 - who) + build * who;", "sinks()=0 stay(9)=1 stay(8)=0");
        run("stair 3 3;person on 1 build 1;person on 0 build 1;day 3;bears : (1 - who) * (5 - age) + who * day;", "sinks()=3 stay(0)=1");
        run("stair 9 9;joint 0 takes 99;person on 0 build 9;", "stands()=0 stay(9)=0 stay(8)=0");
        run("stair 9 9 9;joint 1 takes 99;person on 0 build 9;person on 1 build 9;", "stands()=0 stay(9)=1 where(9)=1 stay(8)=0");
        // Step 0 lacks on days that are 2 modulo 7, step 1 on those that are 1: who comes to step 1 falls a day later.
        String byTurns = "stair 10 10;person on 0 build 0;person on 1 build 0;bears : (1 - who) * (2 - who) * 5 * (day - %) * (day - %)"
            + " + who * (2 - who) * 10 * (day - #) * (day - #) + who * (who - 1) * 5;day ";
        run(byTurns.replace('%', '2').replace('#', '1') + "6;", "stands()=1 sinks()=2 stay(5)=1 bring(1,5)=2 sinks()=3 undo(1)=0 bring(0,5)=2 sinks()=2");
        run(byTurns.replace('%', '1').replace('#', '2') + "5;", "stands()=1 sinks()=3 stay(5)=0 bring(0,5)=2 sinks()=4 undo(1)=0 bring(1,5)=2 sinks()=3");
        about("more than 99 DAYS are as long");
        String aging = "stair 1 1;person on 0 build 99;person on 1 build 98;bears : build - age + ";
        run(aging + "0;", "sinks()=98 stay(99)=1 stay(98)=0");
        run(aging + "1;", "sinks()=99 stay(99)=1 stay(98)=0");
        run(aging + "2;", "sinks()=-1 stay(99)=0");
    }

    /** 24 on a step of 20. */
    private static final String TRIED = "stair 20;person on 0 build 5;person on 0 build 10;person on 0 build 9;";
    /** The same on a step of 10, so that one can be seen. */
    private static final String LIGHT = TRIED.replace("20", "10");

    private static void trials() {
        about("promise 31: -2: the TRAY, the PERSON; -6");
        run(TRIED, "builds(0,0)!-6 builds(3,2)!-6 builds(4,0)!-2 builds(-1,0)!-2 builds(0,3)!-2 builds(0,-1)!-2 builds(2147483647,0)!-2 builds(0,-2147483648)!-2 fill(3,1) builds(3,2)!95 builds(2,0)!-6 builds(3,3)!-2");
        about("promise 31: -4: not 1 to 10 numbers, ahead of -3 and -5");
        run(LIGHT, "numbers(0,1,0) builds(0,0)!-4 fill(0,1) builds(0,0)!100 fill(0,1,1,1,1,1,1,1,1,1,1) builds(0,0)=100 fill(0,1,1,1,1,1,1,1,1,1,1,1) builds(0,0)!-4 "
            + "fill(0,-1,-1,-1,-1,-1,-1,-1,-1,-1,-1,-1) builds(0,0)!-4 fill(0,-1,-1,-1,-1,-1,-1,-1,-1,-1,-1) builds(0,0)!-3 see(0)=2 builds(0,0)!-3 numbers(0,1,0) builds(0,0)!-4 numbers(0,0,40) builds(0,0)!-4 fill(0,1) builds(0,0)!-5");
        about("promise 31: -3: one is none such (sets of PEOPLE who are there alone)");
        run(LIGHT, "fill(0,14) builds(0,0)=100 fill(0,15) builds(0,0)=0 fill(0,16) builds(0,0)!-3 fill(0,17) builds(0,0)!-3 fill(0,-1) builds(0,0)!-3 fill(0,-2) builds(0,0)!-3 fill(0,1,1,1,16) builds(0,0)!-3 "
            + "fill(0,8) builds(0,0)=0 see(2)=2 builds(0,0)!-3 fill(0,9) builds(0,0)!-3 fill(0,1) builds(0,0)=100 builds(0,2)!-5 fill(0,8) builds(0,2)!-3");
        run(NINE, "fill(0,1023) builds(0,8)=100 fill(0,1022) builds(0,8)=0 fill(0,1024) builds(0,8)!-3 fill(0,1025) builds(0,8)!-3 fill(0,4294967296) builds(0,0)!-3 fill(0,9223372036854775807) builds(0,0)!-3 fill(0,-9223372036854775808) builds(0,0)!-3");
        about("promise 31: -5: the PERSON isn't there");
        run(LIGHT, "fill(0,1) see(0)=2 builds(0,0)!-5 builds(0,1)=99 builds(0,3)!-2 builds(1,0)!-6");
        about("ROOMS: builds 0 to 99 by TRIALS");
        run(TRIED, "fill(0,1) builds(0,0)=99 fill(0,0) builds(0,0)=1 fill(0,2) builds(0,0)=100 fill(0,3) builds(0,0)=0 fill(0,0,1) builds(0,0)=0 fill(0,1,4) builds(0,0)=10 fill(0,1,5) builds(0,0)=89 fill(0,12) builds(0,0)=20 fill(0,13) builds(0,0)=80");
        run(TRIED.replace("stair 20", "stair 118"), "fill(0,1) builds(0,0)=1 fill(0,0) builds(0,0)=99");
        run("stair 20;person on 0 build 5;person on 0 build 30;couple 0 1;bears : build + wed * 3;", "fill(0,3) builds(0,1)=80 bound(0,1,0)=20 fill(0,1) builds(0,1)=91 bound(0,1,0)=9 fill(0,2) builds(0,1)=20 fill(0,5) builds(0,1)=0");
        run(TRIED.replace("stair 20", "stair 119"), "fill(0,1) builds(0,0)=0 fill(0,0) builds(0,0)=100");
    }

    private static void bounds() {
        about("promise 32: -2: what, too; as builds()");
        run(LIGHT, "bound(0,0,0)!-6 fill(0,1) bound(0,0,0)!0 bound(0,0,1)!99 bound(0,0,2)!-2 bound(0,0,-1)!-2 bound(0,0,2147483647)!-2 bound(0,0,-2147483648)!-2 bound(4,0,0)!-2 bound(0,3,0)!-2 bound(1,0,0)!-6 bound(1,0,2)!-2 "
            + "numbers(0,1,0) bound(0,0,0)!-4 bound(0,0,2)!-2 numbers(0,1,11) bound(0,0,1)!-4 fill(0,16) bound(0,0,0)!-3 bound(0,0,2)!-2 fill(0,1) see(0)=2 bound(0,0,0)!-5 bound(0,0,1)!-5 bound(0,0,2)!-2 fill(0,2) bound(0,0,0)!-3");
        about("promise 32: the least, the greatest; NONE: there are none");
        run(TRIED, "fill(0,1) bound(0,0,0)=1 bound(0,0,1)=99 fill(0,0) bound(0,0,0)=0 bound(0,0,1)=0 fill(0,2) bound(0,0,0)=0 bound(0,0,1)=99 fill(0,3) bound(0,0,0)=-1 bound(0,0,1)=-1 bound(0,0,2)!-2");
        run(TRIED.replace("stair 20", "stair 118"), "fill(0,1) bound(0,0,0)=99 bound(0,0,1)=99 fill(0,0) bound(0,0,0)=0 bound(0,0,1)=98");
        run("stair 4;person on 0 build 6;bears : (build - 6) * (build - 6);", "fill(0,1) builds(0,0)=97 bound(0,0,0)=0 bound(0,0,1)=99 fill(0,0) builds(0,0)=3 bound(0,0,0)=5 bound(0,0,1)=7");
    }

    private static void nextTrial() {
        about("promise 33: as builds()");
        run(LIGHT, "trial(0,0)!-6 trial(4,0)!-2 trial(-1,0)!-2 trial(0,3)!-2 trial(0,-1)!-2 numbers(0,1,0) trial(0,0)!-4 numbers(0,1,11) trial(0,0)!-4 fill(0,16) trial(0,0)!-3 fill(0,-1) trial(0,0)!-3 fill(0,1) see(0)=2 trial(0,0)!-5 trial(0,1)=2");
        about("promise 33: NONE: nobody else is there, there are none");
        run("stair 1;" + ON, "fill(0,1) trial(0,0)!-1");
        run(LIGHT, "fill(0,3,2) trial(0,0)!-1");
        run("stair 0;" + ON + ON, "fill(0,1) trial(0,0)=1 trial(0,1)=0 see(1)=1 trial(0,0)=-1 trial(0,1)!-5");
        about("promise 33: the lesser number is greatest, the first");
        run(NINE, "fill(0,1) trial(0,0)=1 trial(0,1)=0 trial(0,8)=0");
        run("stair 1;person on 0 build 5;person on 0 build 0;person on 0 build 1;", "fill(0,1) builds(0,0)=100 trial(0,0)=2");
        run(TRIED, "fill(0,1) trial(0,0)=1 fill(0,1,4) trial(0,0)=2 fill(0,1,4,8) trial(0,0)=1");
    }

    private static void game() {
        about("promise 34, 35, 36: -5: it doesn't STAND");
        run("stair 1;", "wins()!-5 best()!-5 lasts()!-5");
        run("stair 1;" + ON, "wins()!0 best()!-1 lasts()!1 see(0)=0 wins()!-5 best()!-5 lasts()!-5 undo(1)=0 wins()=0");
        about("THE GAME: who can see nobody any more, loses");
        run(null, "wins()=0 best()=-1 lasts()=0");
        run("stair 0;" + ON, "wins()=1 best()=0 lasts()=1 see(0)=0 wins()=0 best()=-1 lasts()=0");
        run(NINE, "wins()=1 best()=0 lasts()=9");
        run(EIGHT, "wins()=0 best()=-1 lasts()=8");
        about("THE GAME: behind whose it doesn't STAND, loses (that one is counted, too)");
        run("stair 1;" + ON, "wins()=0 best()=-1 lasts()=1");
        run("stair 1;" + ON + ON, "wins()=1 best()=0 lasts()=2");
        run(NINE.replace("stair 0", "stair 9"), "wins()=0 best()=-1 lasts()=1");
        run(NINE.replace("stair 0", "stair 8"), "wins()=1 best()=0 lasts()=2");
        run(NINE.replace("stair 0", "stair 1"), "wins()=0 best()=-1 lasts()=9");
        about("THE GAME: quota and the law may aside");
        run("stair 0;" + ON + ON + "may : who = 0;", "see(0)=1 see(1)!-13 wins()=1 best()=1 lasts()=1 days(1)=1 see(1)!-14 wins()=1");
        about("promise 35: the first PERSON by whom it wins");
        run("stair 5;person on 0 build 4;person on 0 build 1;person on 0 build 5;", "wins()=1 best()=2 lasts()=2");
        run("stair 5;person on 0 build 4;person on 0 build 1;person on 0 build 5;", "best()=2 holdings()=5 best()=2 lasts()=2 holdings()=5 wins()=1");
        about("promise 36: wins by as few as can be, loses by as many as can be");
        run("stair 3;" + ON.repeat(3) + "person on 0 build 3;", "wins()=1 best()=0 lasts()=2");
        run("stair 3;" + ON.repeat(2) + "person on 0 build 3;", "wins()=0 best()=-1 lasts()=3");
    }

    private static void shares() {
        about("promise 37: -2: the PERSON, what; -5: it isn't there");
        run(THREE, "share(0,0)!1 share(0,1)!4 share(3,0)!-2 share(-1,0)!-2 share(0,2)!-2 share(0,-1)!-2 share(2147483647,0)!-2 share(-2147483648,1)!-2 share(0,2147483647)!-2 see(0)=2 share(0,0)!-5 share(0,1)!-5 share(0,2)!-2 share(3,0)!-2");
        about("SHARE: in lowest terms");
        run("stair 0;" + ON, "share(0,0)=0 share(0,1)=1");
        run("stair 1;" + ON, "share(0,0)=1 share(0,1)=1");
        run("stair 2;" + ON, "share(0,0)=0 share(0,1)=1");
        run(NINE.replace("stair 0", "stair 9"), "share(0,0)=1 share(0,1)=256 share(8,0)=1 share(8,1)=256");
        run(NINE.replace("stair 0", "stair 5"), "share(4,0)=35 share(4,1)=128");
        run(NINE.replace("stair 0", "stair 1"), "share(4,0)=1 share(4,1)=256");
        run(NINE, "share(4,0)=0 share(4,1)=1 share(9,0)!-2");
        about("SHARE: no HOLDING, but one with it");
        run(GRUDGE, "share(0,0)=1 share(0,1)=2 share(1,0)=1 share(1,1)=2");
    }

    private static void pillars() {
        about("promise 38: the first; NONE: nobody is there");
        run(null, "pillar()=-1");
        run("stair 0;" + ON, "pillar()=0 see(0)=0 pillar()!-1 bring(0,0)=1 pillar()=1");
        run(NINE, "pillar()!0 see(0)=8 pillar()=1");
        run("stair 3;person on 0 build 1;person on 0 build 2;person on 0 build 2;", "pillar()=0");
        run("stair 3;person on 0 build 0;person on 0 build 2;person on 0 build 3;", "pillar()=2");
        run("stair 1;person on 0 build 0;" + ON + ON, "pillar()=1");
        run("stair 9;" + ON + ON, "pillar()=0");
    }

    private static void chances() {
        about("promise 39: -2: what");
        run(THREE, "chance(0)!1 chance(1)!1 chance(2)!-2 chance(-1)!-2 chance(2147483647)!-2 chance(-2147483648)!-2");
        about("CHANCE: frail 0 to 10, in lowest terms");
        run(null, "chance(0)=1 chance(1)=1");
        run("stair 1;", "chance(0)=0 chance(1)=1");
        run("stair 1;person on 0 build 1 frail 0;", "chance(0)=1 chance(1)=1");
        run("stair 1;person on 0 build 1 frail 1;", "chance(0)=9 chance(1)=10");
        run("stair 1;person on 0 build 1 frail 2;", "chance(0)=4 chance(1)=5");
        run("stair 1;person on 0 build 1 frail 5;", "chance(0)=1 chance(1)=2");
        run("stair 1;person on 0 build 1 frail 10;", "chance(0)=0 chance(1)=1");
        String nine = "person on 0 build 1 frail 9;".repeat(9);
        run("stair 9;" + nine, "chance(0)=1 chance(1)=1000000000");
        run("stair 1;" + nine, "chance(0)=612579511 chance(1)=1000000000");
        run("stair 0;" + nine, "chance(0)=1 chance(1)=1 see(0)=8 chance(0)=1 chance(1)=1");
        run("stair 9;" + nine.replace("frail 9", "frail 1"), "chance(0)=387420489 chance(1)=1000000000");
        run("stair 9;" + nine.replace("frail 9", "frail 5"), "chance(0)=1 chance(1)=512");
        run("stair 9;" + nine.replace("frail 9", "frail 10"), "chance(0)=0 chance(1)=1");
        run("stair 1;person on 0 build 1 frail 5;", "bring(0,0)=1 chance(1)=2 bring(0,1)=2 chance(0)=1 chance(1)=1");
        about("CHANCE: those who don't fail are a HOLDING, wed by these");
        run("stair 4;person on 0 build 4 frail 5;person on 0 build 4 frail 5;couple 0 1;bears : build - wed * 3;", "chance(0)=1 chance(1)=2");
    }

    private static void places() {
        about("promise 40: a build (0 to 99); -3; -5: there are 9");
        run("stair 5 5;person on 0 build 5 frail 1;person on 1 build 5 frail 5;", "where(0)!0 where(4)!0 where(5)!1 where(99)!1 where(100)!-3 where(-1)!-3 where(2147483647)!-3 where(-2147483648)!-3");
        run(NINE, "where(0)!-5 where(99)!-5 where(100)!-3 where(-1)!-3");
        run(EIGHT, "where(0)=0 bring(0,0)=8 where(0)!-5 where(100)!-3 see(8)=8 where(0)!-5");
        about("the STEP that makes CHANCE greatest, the first");
        run("stair 5 5;person on 0 build 5 frail 5;person on 1 build 5 frail 5;", "where(5)=0");
        run("stair 5 5;person on 0 build 5 frail 5;person on 1 build 5 frail 6;", "where(5)=1");
        run("stair 5 5;", "where(99)=0 where(0)=0");
        run("stair 5 5;person on 0 build 5 frail 1;person on 1 build 5 frail 5;bears : build - age;", "where(5)=1 where(4)=0");
        run("stair 5 5;person on 0 build 5 frail 10;person on 1 build 5;", "where(5)=0 tell(0)=3 where(5)=1 where(5)=1", "stair 5 5;person on 0 build 5 frail 1;person on 1 build 5 frail 5;");
        run("stair 0 0 0 0 0 0 0 9;", "where(8)=0 where(9)=7");
        run("stair 0 5;person on 1 build 5;", "where(9)=0");
        run("stair 5 5;joint 0 takes 99;person on 0 build 5;person on 0 build 5 frail 5;", "where(5)=0 where(4)=0");
        run("stair 1 1;person on 0 build 1 frail 1;person on 1 build 1 frail 5;", "where(1)=1 where(0)=0");
        // On step 1 it helps in three cases, of 75, 75 and 75 in 1,000, on step 0 in one of 175.
        run("stair 5 5;person on 0 build 5 frail 5;person on 0 build 5 frail 5;person on 1 build 5 frail 3;", "where(5)=1 chance(0)=21 chance(1)=40");
    }
}
