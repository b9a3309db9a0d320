/** Each sentence of the document that names an edge of what is borne, of whether it stands, of deeds: ==== 2., promises 5 to 18. */
public final class EdgesOfDeedsTest extends Runs {
    /** Two steps of 10; 8 and 15 stand on them; the joint passes 4 on. */
    private static final String TWO = "stair 10 10;joint 0 takes 4;person on 0 build 8;person on 1 build 15;";
    private static final String ON = "person on 0 build 1;";
    private static final String NINE = "stair 0;" + ON.repeat(9);
    private static final String WIDE = "stair 0 0 0 0 0 0 0 0;" + "person on 6 build 1;".repeat(9) + "quota 9;";

    public static void main(String[] args) {
        people();
        steps();
        facts();
        kept();
        borne();
        standing();
        cracks();
        seeing();
        bringing();
        moving();
        propping();
        goingDays();
        fallenForGood();
        undoing();
        deedNumbers();
        judging();
        performing();
        years();
        finish();
    }

    private static void people() {
        about("promise 5: -2: no such PERSON, no such what");
        run(TWO, "person(0,0)=0 person(1,7)=15 person(0,8)!-2 person(0,-1)!-2 person(2,0)!-2 person(-1,0)!-2 person(2147483647,0)!-2 person(-2147483648,7)!-2 person(0,2147483647)!-2 person(0,-2147483648)!-2");
        run(TWO, "bring(1,3)=2 person(2,0)=1 person(3,0)!-2 undo(1)=0 person(2,0)!-2");
        run(NINE, "person(8,6)=1 person(9,6)!-2");
        about("promise 5: by (NONE), the other one of its couple (NONE)");
        run(TWO + "person on 0 build 1 by 0;couple 0 2;", "person(0,4)=-1 person(2,4)=0 person(1,5)=-1 person(0,5)=2 person(2,5)=0");
        about("promise 5: 1 if it is there, else 0; BEARS 0 if it isn't there");
        run(TWO + "person on 1 build 9 age 4 frail 3 by 2;couple 0 2;", "person(2,6)=1 person(2,7)=9 see(2)=2 person(2,6)=0 person(2,7)=0 "
            + "person(2,0)=1 person(2,1)=9 person(2,2)=4 person(2,3)=3 person(2,4)=2 person(2,5)=0 person(0,5)=2 person(2,8)!-2 days(1)=1 person(2,2)=5 undo(2)=0 person(2,6)=1 person(2,7)=9");
    }

    private static void steps() {
        about("promise 6: -2: no such STEP, no such what");
        run(TWO, "step(0,0)=10 step(1,4)=0 step(0,5)!-2 step(0,-1)!-2 step(2,0)!-2 step(-1,0)!-2 step(2147483647,0)!-2 step(-2147483648,4)!-2 step(1,2147483647)!-2 step(1,-2147483648)!-2");
        run(WIDE, "step(7,0)=0 step(8,0)!-2 step(6,3)=511");
        about("promise 6: the JOINT to the next one (0: it is the last one)");
        run("stair 0 0;joint 0 takes 999;", "step(0,4)=999 step(1,4)=0");
        run("stair 0;", "step(0,4)=0");
        about("promise 6: who is there on it");
        run(TWO + ON, "step(0,3)=5 step(1,3)=2 see(2)=2 step(0,3)=1 bring(1,0)=3 step(1,3)=10 move(3,0)=1 step(0,3)=9 step(1,3)=2");
    }

    private static void facts() {
        about("age: and one more for each DAY gone by");
        run("stair 0;person on 0 build 1 age 99;bears : age;", "person(0,7)=99 days(1)=1 person(0,2)=100 person(0,7)=100 days(99)*9 days(7)=7 person(0,2)=998 person(0,7)=998 "
            + "days(1)=1 person(0,7)=999 days(1)=1 person(0,2)=1000 person(0,7)=999");
        run("stair 0;person on 0 build 1;bears : age;day 999;", "person(0,7)=0 days(1)=1 person(0,2)=1 person(0,7)=1");
        about("step: its STEP, as it has MOVED");
        run("stair 0 0 0;person on 1 build 1;bears : step;", "person(0,7)=1 move(0,2)=1 person(0,7)=2 step(2,1)=2 move(0,1)=1 move(0,0)=1 person(0,7)=0");
        about("day: DAY modulo 7");
        run("stair 0;person on 0 build 1;bears : day;", "person(0,7)=0 days(6)=6 person(0,7)=6 days(1)=1 person(0,7)=0 days(7)=7 person(0,7)=0 days(6)=6 person(0,7)=6 days(1)=1 person(0,7)=0");
        run("stair 0;person on 0 build 1;bears : day;day 6;", "person(0,7)=6 days(1)=1 person(0,7)=0");
        run("stair 0;person on 0 build 1;bears : day;day 7;", "person(0,7)=0");
        run("stair 0;person on 0 build 1;bears : day;day 999;", "person(0,7)=5 days(1)=1 person(0,7)=6 days(1)=1 person(0,7)=0");
        run("stair 0;" + ON + "may : day = 0;day 6;", "see(0)!-14 days(1)=1 see(0)=0");
        about("wed: 1 if the other one of its couple is there, else 0");
        run("stair 0;" + ON.repeat(3) + "couple 0 2;quota 9;bears : wed;", "person(0,7)=1 person(1,7)=0 person(2,7)=1 see(1)=2 person(0,7)=1 see(2)=1 person(0,7)=0 person(2,7)=0 undo(1)=1 person(0,7)=1");
        run("stair 0;" + ON.repeat(3) + "couple 0 2;quota 9;may : wed = 0 or who = 2;", "see(0)!-14 see(2)=2 see(0)=1 see(1)=0");
        run("stair 0;" + ON + "bears : wed + 3;", "bring(0,5)=1 person(0,7)=3 person(1,7)=3");
        about("wait: 99, if none; 0, if it is past");
        run("stair 0;" + "person on 0 build 1 by 4;person on 0 build 1 by 5;person on 0 build 1 by 6;person on 0 build 1;person on 0 build 1 by 999;day 5;quota 9;"
            + "may : who = 0 and wait = 0 or who = 1 and wait = 0 or who = 2 and wait = 1 or who = 3 and wait = 99 or who = 4 and wait = 994;", "see(0)=4 see(1)=3 see(2)=2 see(3)=1 see(4)=0");
        run("stair 0;person on 0 build 1 by 6;day 5;may : wait > 0;", "see(0)=0 undo(1)=0 days(1)=1 see(0)!-14 days(1)=1 see(0)!-14");
        run("stair 0;person on 0 build 1 by 999;person on 0 build 1 by 99;person on 0 build 1 by 100;quota 9;may : wait > 99;", "see(0)=2 see(1)!-14 see(2)=1 days(1)=1 see(1)!-14");
        run("stair 0;may : wait = 99;", "bring(0,1)=0 days(99)=99 see(0)=0");
    }

    private static void bears(String law, int want) {
        run("stair 0;" + ON + "bears : " + law + ";", "person(0,7)=" + want + " step(0,1)=" + want + " count(9)=" + want);
    }

    private static void kept() {
        about("each + - * is kept from -1,000,000 to 1,000,000");
        String million = "(999 + 1) * (999 + 1)";
        String down = " - 999 * 999 - 999 - 990";
        bears(million + down, 10);
        bears(million + " - 1" + down, 9);
        bears(million + " + 1" + down, 10);
        bears(million + " + 999 * 999" + down, 10);
        bears("(999 + 1) * (999 + 2)" + down, 10);
        bears("(999 + 1) * 999 + 999" + down, 9);
        bears("(999 + 1) * 999 + 999 + 1" + down, 10);
        bears("(999 + 1) * 999 + 999 + 2" + down, 10);
        bears(million + " * (" + million + ")" + down, 10);
        bears(million + " - (0 - 1)" + down, 10);
        bears(million + " - (" + million + ")", 0);
        bears("(" + million + " + " + million + ") - " + million + " + 3", 3);
        String least = "(0 - 999 - 1) * (999 + 1)";
        String up = " + 999 * 999 + 999 + 999 + 11";
        bears(least + up, 10);
        bears(least + " + 1" + up, 11);
        bears(least + " - 1" + up, 10);
        bears(least + " + (0 - 1)" + up, 10);
        bears(least + " - " + million + up, 10);
        bears("(0 - 999 - 1) * (999 + 2)" + up, 10);
        bears("(0 - 999 - 1) * 999 - 999" + up, 11);
        bears("(0 - 999 - 1) * 999 - 999 - 1" + up, 10);
        bears("(0 - 999 - 1) * 999 - 999 - 2" + up, 10);
        bears(least + " * (" + million + ")" + up, 10);
        bears(least + " * (" + least + ")" + down, 10);
        String may = "stair 0;" + ON + "may : ";
        run(may + million + " + 1 = " + million + ";", "see(0)=0");
        run(may + million + " + 1 > " + million + ";", "see(0)!-14");
        run(may + least + " - 1 < " + least + ";", "see(0)!-14");
        run(may + million + " - 1 < " + million + " and " + least + " + 1 > " + least + ";", "see(0)=0");
        about("not ahead of and, and ahead of or");
        run(may + "1 = 1 and 1 = 1;", "see(0)=0");
        run(may + "1 = 1 and 1 = 2 or 1 = 2 and 1 = 1;", "see(0)!-14");
        run(may + "1 = 1 or 1 = 1 and 1 = 2;", "see(0)=0");
        run(may + "[1 = 1 or 1 = 1] and 1 = 2;", "see(0)!-14");
        run(may + "not 1 = 2 and 1 = 2;", "see(0)!-14");
        run(may + "not [1 = 2 and 1 = 2];", "see(0)=0");
        run(may + "not 1 = 1 or 1 = 1;", "see(0)=0");
        run(may + "not [1 = 1 or 1 = 1] or 1 = 2;", "see(0)!-14");
        about("= < > at what is equal");
        run(may + "5 = 5;", "see(0)=0");
        run(may + "5 = 6 or 6 = 5;", "see(0)!-14");
        run(may + "5 < 5 or 5 > 5;", "see(0)!-14");
        run(may + "4 < 5 and 5 > 4;", "see(0)=0");
        run(may + "5 < 4 or 4 > 5;", "see(0)!-14");
    }

    private static void borne() {
        about("BEARS: 0 at least, 999 at most");
        bears("0", 0);
        bears("0 - 1", 0);
        bears("0 - 999 * 999", 0);
        bears("1", 1);
        bears("998", 998);
        bears("999", 999);
        bears("999 + 1", 999);
        bears("999 * 999", 999);
        about("without a law: its build");
        run("stair 0;person on 0 build 0;person on 0 build 99;", "person(0,7)=0 person(1,7)=99 step(0,1)=99");
        about("a STEP BEARS what all on it BEAR together, and 10 for each PROP");
        run("stair 0 0;" + ON.repeat(9) + "bears : 999;", "step(0,1)=8991 step(1,1)=0 prop(0)=1 step(0,1)=9001 prop(1)=1 step(1,1)=10 prop(1)=2 step(1,1)=20 count(9)=9021 see(0)=8 step(0,1)=8002");
        run("stair 0;", "step(0,1)=0 prop(0)*99=99 step(0,1)=990");
        about("BEARS: by the age and the DAY that are today");
        run("stair 5;person on 0 build 5;bears : build - age;", "step(0,1)=5 count(9)=5 person(0,7)=5 crack(0)=-1 crack(1)=-1 spare()=0 sinks()=1 days(1)=1 step(0,1)=4 count(9)=4 person(0,7)=4 crack(0)=0 spare()=-1");
        run("stair 6;" + ON + "bears : day;day 6;", "step(0,1)=6 count(9)=6 crack(0)=-1 spare()=0 sinks()=1 days(1)=1 step(0,1)=0 count(9)=0 crack(0)=0 spare()=-6");
    }

    private static void standing() {
        about("It STANDS, if LOADS can be passed on: no STEP with more than it BEARS");
        run("stair 5;person on 0 build 5;", "stands()=1 spare()=0 crack(0)=-1");
        run("stair 6;person on 0 build 5;", "stands()=0 spare()=-1 crack(0)=0 crack(1)=0");
        run("stair 999;" + ON + "bears : 999;", "stands()=1 spare()=0");
        run("stair 999;" + ON + "bears : 998;", "stands()=0 spare()=-1");
        about("over each JOINT, no more than it takes");
        run("stair 10 0;joint 0 takes 4;person on 0 build 6;person on 1 build 4;", "stands()=1 spare()=0");
        run("stair 10 0;joint 0 takes 4;person on 0 build 5;person on 1 build 9;", "stands()=0 spare()=-1 crack(0)=0 crack(1)=0");
        run("stair 10 0;joint 0 takes 4;person on 0 build 6;person on 1 build 3;", "stands()=0 spare()=-1 crack(0)=0 crack(1)=1");
        run("stair 0 10;joint 0 takes 4;person on 0 build 4;person on 1 build 6;", "stands()=1 spare()=0");
        run("stair 0 10;joint 0 takes 3;person on 0 build 9;person on 1 build 6;", "stands()=0 spare()=-1 crack(0)=1 crack(1)=1");
        run("stair 5 0;person on 1 build 99;", "stands()=0 crack(0)=0 crack(1)=0 spare()=-5");
        about("one way or the other");
        run("stair 8 0 8;joint 0 takes 8;joint 1 takes 8;person on 1 build 16;", "stands()=1 spare()=0");
        run("stair 8 0 8;joint 0 takes 8;joint 1 takes 7;person on 1 build 99;", "stands()=0 crack(0)=2 crack(1)=2 spare()=-1");
        run("stair 0 16 0;joint 0 takes 8;joint 1 takes 8;person on 0 build 8;person on 2 build 8;", "stands()=1 spare()=0");
        run("stair 0 17 0;joint 0 takes 8;joint 1 takes 8;person on 0 build 99;person on 2 build 99;", "stands()=0 crack(0)=1 crack(1)=1 spare()=-1");
        about("over all JOINTS, from the first STEP to the eighth");
        String joints = "";
        for (int k = 0; k < 7; k++) joints += "joint " + k + " takes 9;";
        run("stair 9 0 0 0 0 0 0 0;" + joints + "person on 7 build 9;", "stands()=1 spare()=0");
        run("stair 9 0 0 0 0 0 0 0;" + joints + "person on 7 build 8;", "stands()=0 spare()=-1 crack(0)=0 crack(1)=7");
        run("stair 9 0 0 0 0 0 0 0;" + joints + "joint 3 takes 8;person on 7 build 99;", "stands()=0 spare()=-1 crack(0)=0 crack(1)=3");
        run("stair 0 0 0 0 0 0 0 9;" + joints + "person on 0 build 9;", "stands()=1 spare()=0");
        run("stair 0 0 0 0 0 0 0 9;" + joints + "joint 6 takes 8;person on 0 build 99;", "stands()=0 crack(0)=7 crack(1)=7");
        about("promise 7: 1 if so, else 0 (FALLEN: 0)");
        run(TWO, "stands()=1 see(0)=1 stands()=0 undo(1)=0 stands()=1");
    }

    private static void cracks() {
        about("promise 8: NONE: none; -2: what, also where there is none");
        run(TWO, "crack(0)=-1 crack(1)=-1 crack(2)!-2 crack(-1)!-2 crack(2147483647)!-2 crack(-2147483648)!-2");
        run("stair 1;", "crack(0)=0 crack(1)=0 crack(2)!-2 crack(-1)!-2");
        about("the first CRACK: by its first STEP, then its last one");
        run("stair 5 5 5 5;", "crack(0)=0 crack(1)=0");
        run("stair 0 5 5 5;", "crack(0)=0 crack(1)=1");
        run("stair 0 5 5 5;person on 0 build 5;", "crack(0)=0 crack(1)=2");
        run("stair 0 5 5 5;person on 0 build 99;", "crack(0)=1 crack(1)=1");
        run("stair 0 0 0 5;person on 0 build 99;person on 1 build 99;person on 2 build 99;", "crack(0)=3 crack(1)=3");
        run("stair 5 5 5 5;joint 0 takes 99;joint 1 takes 99;joint 2 takes 99;person on 1 build 19;", "crack(0)=0 crack(1)=3 spare()=-1");
        run("stair 5 5 5 5;joint 0 takes 99;joint 1 takes 99;joint 2 takes 99;person on 1 build 20;", "crack(0)=-1 spare()=0");
        run("stair 9 9;joint 0 takes 5;", "crack(0)=0 crack(1)=0 spare()=-18");
        run("stair 4 9;joint 0 takes 5;", "crack(0)=0 crack(1)=1 spare()=-13");
        about("promise 9: To SPARE, below 0 if it doesn't STAND");
        run("stair 5;person on 0 build 6;", "spare()=1");
        run("stair 5;person on 0 build 5;", "spare()=0");
        run("stair 5;person on 0 build 4;", "spare()=-1");
        run("stair 999 999 999 999 999 999 999 999;", "spare()=-7992");
        run("stair 0;" + ON.repeat(9) + "bears : 999;", "spare()=8991 prop(0)*99=99 spare()=9981");
        run("stair 0 0;" + ON + "bears : 999;", "spare()=0");
        run("stair 5 5;joint 0 takes 999;person on 0 build 99;", "spare()=89");
    }

    private static void seeing() {
        about("promise 10: 1 no such PERSON");
        String three = "stair 0;" + ON.repeat(3) + "quota 2;may : not who = 2;";
        run(three, "see(3)!-11 see(-1)!-11 see(2147483647)!-11 see(-2147483648)!-11 see(2)!-14");
        run(NINE + "quota 9;", "see(8)=8 see(9)!-11");
        about("promise 10: 2 it isn't there");
        run(three, "see(0)=2 see(0)!-12 see(1)=1 see(0)!-12");
        about("not more than quota a DAY");
        run("stair 0;" + ON.repeat(3), "see(0)=2 see(1)!-13 days(1)=1 count(4)=0 see(1)=1 see(2)!-13 undo(1)=2 see(2)=1 see(1)!-13");
        run(NINE + "quota 8;", "see(0)=8 see(1) see(2) see(3) see(4) see(5) see(6)=2 see(7)=1 count(4)=8 see(8)!-13 days(1)=1 see(8)=0");
        run(NINE + "quota 9;", "see(0) see(1) see(2) see(3) see(4) see(5) see(6) see(7)=1 see(8)=0 count(4)=9");
        about("the first why not counts: 1, 2, 3, 4");
        run(three, "see(2)!-14 see(0) see(1)=1 see(2)!-13 see(1)!-12 see(3)!-11 days(1)=1 see(2)!-14");
        about("without a law may: always");
        run("stair 0;" + ON, "see(0)=0");
        about("behind whom it doesn't STAND, it is FALLEN");
        run("stair 5;person on 0 build 5;person on 0 build 4;quota 9;", "see(1)=1 count(3)=0 see(0)=0 count(3)=1 see(0)!-12");
    }

    private static void bringing() {
        about("promise 11: 1 no such STEP, build");
        run(TWO, "bring(2,5)!-11 bring(-1,5)!-11 bring(0,100)!-11 bring(0,-1)!-11 bring(2147483647,5)!-11 bring(-2147483648,5)!-11 bring(0,2147483647)!-11 bring(0,-2147483648)!-11 count(10)=0 "
            + "bring(1,0)=2 bring(0,99)=3 person(2,0)=1 person(2,1)=0 person(3,0)=0 person(3,1)=99");
        run(WIDE.replace("person on 6 build 1;", ""), "bring(7,1)=0 bring(8,1)!-11");
        about("BRING: 9 at most in all");
        run("stair 0;" + ON.repeat(8), "bring(0,5)=8 count(1)=9 bring(0,5)!-12 see(0)=8 bring(0,5)!-12 bring(0,100)!-11 bring(1,5)!-11 undo(2)=0 count(1)=8 bring(0,6)=8 person(8,1)=6");
        run(null, "bring(0,1)*9=8 bring(0,1)!-12 person(8,6)=1");
        about("BRING: age 0, not frail, no by, of no couple (numbers go on)");
        run("stair 0;person on 0 build 1 age 5 frail 5 by 5;person on 0 build 2;couple 0 1;day 4;", "days(3)=3 bring(0,9)=2 person(2,2)=0 person(2,3)=0 person(2,4)=-1 person(2,5)=-1 person(2,6)=1 person(2,7)=9 "
            + "days(1)=1 person(2,2)=1 person(0,2)=9 see(1)=2 bring(0,8)=3 person(3,2)=0 person(2,2)=1");
        run("stair 0;", "bring(0,9)=0 undo(1)=0 person(0,0)!-2 days(5)=5 bring(0,8)=0 person(0,2)=0 person(0,1)=8");
    }

    private static void moving() {
        about("promise 12: 1 no such PERSON, STEP");
        run("stair 0 0 0;person on 1 build 1;", "move(0,3)!-11 move(0,-1)!-11 move(1,0)!-11 move(-1,0)!-11 move(0,2147483647)!-11 move(0,-2147483648)!-11 move(2147483647,0)!-11 move(-2147483648,0)!-11");
        about("MOVE: to a STEP beside its own");
        run("stair 0 0 0;person on 1 build 1;", "move(0,1)!-12 move(0,2)=1 move(0,0)!-12 move(0,2)!-12 move(0,3)!-11 move(0,1)=1 move(0,0)=1 move(0,2)!-12 move(0,0)!-12 move(0,-1)!-11 person(0,0)=0");
        run(WIDE, "move(8,7)=1 move(8,5)!-12 move(8,0)!-12 move(8,8)!-11 move(8,6)=1 move(8,5)=1");
        about("promise 12: 2 it isn't there");
        run("stair 0 0;" + ON + ON, "see(0)=1 move(0,1)!-12 move(0,2)!-11 move(1,1)=1");
        about("promise 12: 1 if it STANDS then, else 0");
        run("stair 5 0;person on 0 build 5;person on 0 build 2;", "move(1,1)=1 stands()=1 move(0,1)=0 stands()=0 move(0,0)!-12 undo(1)=1 person(0,0)=0 stands()=1");
    }

    private static void propping() {
        about("promise 13: 1 no such STEP");
        run(TWO, "prop(2)!-11 prop(-1)!-11 prop(2147483647)!-11 prop(-2147483648)!-11 prop(1)=1 prop(0)=1 prop(1)=2");
        about("99 PROPS in all");
        run("stair 0 0;", "prop(0)*50=50 prop(1)*48=48 count(6)=98 prop(1)=49 count(6)=99 prop(0)!-12 prop(1)!-12 prop(2)!-11 fill(0,200) judge(0,0)=0 judge(0,1)=2 fill(0,201) judge(0,1)=2 perform(0)=0 undo(1)=9 prop(0)=51 prop(1)!-12");
    }

    private static void goingDays() {
        String older = "stair 20;person on 0 build 30;bears : build - age;day 5;";
        about("promise 14: n DAYS (1 to 99); -3");
        run(older, "days(0)!-3 days(100)!-3 days(-1)!-3 days(2147483647)!-3 days(-2147483648)!-3 count(7)=5 days(1)=1 count(7)=6");
        run("stair 0;", "days(99)=99 count(7)=99 undo(1)=0 count(7)=0");
        about("promise 14: at most till it is FALLEN: how many");
        run(older, "days(10)=10 stands()=1 spare()=0 days(99)=1 stands()=0 count(7)=16 undo(1)=1 count(7)=15 days(1)=1 stands()=0");
        run(older, "days(11)=11 stands()=0 count(10)=1 undo(1)=0 stands()=1");
        about("promise 14: -5: it is FALLEN (behind -3)");
        run(older, "days(11)=11 days(1)!-5 days(99)!-5 days(0)!-3 days(100)!-3");
        about("a DAY goes by: nobody was SEEN on it yet");
        run("stair 0;" + ON + ON, "see(0)=1 count(4)=1 days(1)=1 count(4)=0 undo(1)=1 count(4)=1 see(1)!-13");
    }

    private static void fallenForGood() {
        String falls = "stair 5 0;person on 0 build 5;person on 0 build 0 by 5;quota 9;";
        about("FALLEN for good: nothing else can be done");
        run(falls, "bring(1,1)=2 fill(0,200) fill(1,-1) fill(2,1,77) see(0)=2 count(3)=1 stands()=0 see(1)!-12 bring(0,99)!-12 move(1,1)!-12 prop(0)!-12 days(1)!-5 year(1,40)!0 year(0,1)!0 perform(0)!0 perform(1)!0 perform(2)!0 "
            + "judge(0,0)=0 judge(0,1)=2 judge(1,1)=2 judge(2,1)=2 judge(2,3)=1 wins()!-5 best()!-5 lasts()!-5 count(10)=2 undo(1)=1 stands()=1 prop(0)=1");
        run(falls, "move(0,1)=0 see(1)!-12 bring(0,99)!-12 prop(0)!-12 move(0,0)!-12 days(99)!-5");
        about("FALLEN: no such one is still told first");
        run(falls, "see(0)=1 see(2)!-11 bring(2,0)!-11 bring(0,100)!-11 move(2,0)!-11 move(0,2)!-11 prop(2)!-11 fill(0,99) judge(0,1)=1 fill(0,202) judge(0,1)=1 fill(0,-2) judge(0,1)=1");
        about("FALLEN: what would hold it is told all the same");
        run(falls, "see(0)=1 holds(0)=0 mends(0)=1 props(10)=1 instead(1)=5 swap(5)=1 where(5)=0 stay(5)=0 fewest(0)=-1 most(0)=-1 served(0)=-1 sinks()=0 spare()=-5 crack(0)=0 chance(0)=0 holdings()=0 needed()=0");
        about("an IMAGE or a text ends it");
        run(falls, "image(0)=0 see(0)=1 image(1)=0 restore(0)=0 stands()=1 restore(1)=0 stands()=0 see(1)!-12 tell(0)=1 stands()=1", "stair 0;");
    }

    private static void undoing() {
        about("promise 15: n calls (1 to 10); -3: n, more than can be");
        run(TWO, "undo(1)!-3 undo(0)!-3 prop(0) undo(0)!-3 undo(2)!-3 undo(-1)!-3 undo(11)!-3 undo(2147483647)!-3 undo(-2147483648)!-3 undo(1)=0 count(6)=0 undo(1)!-3");
        run(TWO, "prop(0)*9=9 undo(10)!-3 prop(0)=10 undo(11)!-3 undo(10)=0 count(6)=0 undo(1)!-3");
        about("10 at most (eldest are forgotten)");
        run(TWO, "prop(0)*10=10 count(10)=10 prop(1)=1 count(10)=10 undo(11)!-3 undo(10)=0 step(0,2)=1 step(1,2)=0 undo(1)!-3");
        run(TWO, "prop(0)*25=25 count(10)=10 undo(9)=1 count(6)=16 undo(2)!-3 undo(1)=0 count(6)=15 prop(1)*3=3 undo(3)=0 step(0,2)=15 step(1,2)=0");
        run(TWO, "prop(0)*12 undo(10) prop(0)*11=13 undo(5)=5 count(6)=8 prop(1)*5=5 count(10)=10 undo(10)=0 count(6)=3");
        about("the latest first");
        run(TWO, "prop(0) days(1) bring(0,5) move(2,1) see(2) undo(1)=4 person(2,6)=1 count(4)=0 undo(1)=3 person(2,0)=0 undo(1)=2 count(1)=2 undo(1)=1 count(7)=0 undo(1)=0 count(6)=0");
        run(TWO, "prop(0) days(1) bring(0,5) move(2,1) see(2) undo(5)=0 count(1)=2 count(7)=0 count(6)=0 undo(1)!-3");
        run(TWO, "prop(0) days(1) bring(0,5) undo(2)=1 count(1)=2 count(7)=0 count(6)=1 days(2) count(10)=2 undo(1)=1 count(7)=0");
        about("each as a whole");
        run(TWO, "days(99)=99 count(10)=1 undo(1)=0 count(7)=0 fill(0,200,201,-1,200) perform(0)=4 count(10)=1 undo(1)=0 count(6)=0 count(7)=0");
        run(TWO, "prop(0)=1 bring(1,5)=2 fill(0,200,-1) perform(0)=2 year(0,1)=1 count(7)=2 undo(1)=3 count(7)=1 undo(1)=2 count(7)=0 count(6)=1 count(1)=3 undo(2)=0 count(1)=2");
        about("calls that did some: no other one counts");
        run(TWO, "fill(0,77,200) see(5) move(0,0) bring(0,100) prop(9) days(0) perform(0)=0 year(1,41) undo(1)!-3 count(10)=0 judge(0,0) holds(3) stands() image(0) feed(0,0,0,0,0) lists(0) count(10)=0");
        about("all but the text; trays, images, the tape stay as they are");
        run(TWO, "prop(0) fill(0,200) feed(1,1,1,1,1) image(0) prop(1) undo(2)=0 count(11)=20 judge(0,0)=-1 restore(0)=0 count(6)=1");
    }

    private static void deed(String text, long v, int why) {
        run(text, "fill(0," + v + ") judge(0,0)=" + (why == 0 ? -1 : 0) + " judge(0,1)=" + why + (why == 0 ? " perform(0)=1" : " perform(0)!0"));
    }

    private static void deedNumbers() {
        about("DEEDS: 0 to 9: PERSON v is SEEN");
        deed(WIDE, 0, 0);
        deed(WIDE, 8, 0);
        deed(WIDE, 9, 1);
        deed(WIDE, 10, 1);
        deed(NINE.replace(ON, ""), 0, 1);
        run(WIDE, "fill(0,8) perform(0)=1 count(2)=255 count(4)=1");
        about("DEEDS: 100 to 199: PERSON (v - 100) by 10 MOVES to STEP v modulo 10");
        deed(WIDE, 99, 1);
        deed(WIDE, 100, 2);
        deed(WIDE, 105, 0);
        deed(WIDE, 106, 2);
        deed(WIDE, 107, 0);
        deed(WIDE, 108, 1);
        deed(WIDE, 109, 1);
        deed(WIDE, 180, 2);
        deed(WIDE, 187, 0);
        deed(WIDE, 189, 1);
        deed(WIDE, 195, 1);
        deed(WIDE, 199, 1);
        run("stair 0 0;" + ON + "person on 1 build 1;", "fill(0,110) judge(0,1)=0 perform(0)=1 person(1,0)=0 person(0,0)=0 fill(0,101,111) perform(0)=2 person(0,0)=1 person(1,0)=1");
        run(WIDE, "fill(0,187,175) perform(0)=2 person(8,0)=7 person(7,0)=5 count(10)=1");
        about("DEEDS: 200 to 209: STEP v - 200 is PROPPED");
        deed(WIDE, 200, 0);
        deed(WIDE, 207, 0);
        deed(WIDE, 208, 1);
        deed(WIDE, 209, 1);
        deed(WIDE, 210, 1);
        deed("stair 0;", 200, 0);
        deed("stair 0;", 201, 1);
        run(WIDE, "fill(0,207,200,207) perform(0)=3 step(7,2)=2 step(0,2)=1");
        about("DEEDS: NONE: a DAY; others: 1");
        deed(WIDE, -1, 0);
        deed(WIDE, -2, 1);
        deed(WIDE, -100, 1);
        deed(WIDE, 255, 1);
        deed(WIDE, 1L << 32, 1);
        deed(WIDE, (1L << 32) + 200, 1);
        deed(WIDE, (1L << 32) - 1, 1);
        deed(WIDE, Long.MAX_VALUE, 1);
        deed(WIDE, Long.MIN_VALUE, 1);
        for (int v = 10; v < 100; v++) deed("stair 0 0 0;person on 1 build 1;person on 1 build 1;", v, 1);
        for (int v = 210; v < 256; v++) deed(WIDE, v, 1);
        deed(WIDE, -(1L << 32), 1);
        deed("stair 0 0;" + ON + "person on 1 build 1;", -(1L << 32) + 116, 1);
        deed("stair 0 0;" + ON + "person on 1 build 1;", (1L << 32) + 114, 1);
        deed(WIDE, -(1L << 32) + 200, 1);
        run(WIDE, "fill(0,-1,-1) perform(0)=2 count(7)=2");
        about("DEEDS: why one can't be: 3 the quota, 4 the law may");
        run("stair 0;" + ON.repeat(3), "fill(0,0,1) judge(0,0)=1 judge(0,1)=3 fill(0,0,-1,1,0) judge(0,0)=3 judge(0,1)=2 judge(0,2)=4");
        run("stair 0;" + ON.repeat(3) + "may : who = 1;", "fill(0,1,0) judge(0,1)=3 fill(0,1,-1,0) judge(0,0)=2 judge(0,1)=4 fill(0,1,1) judge(0,1)=2 fill(0,3) judge(0,1)=1");
    }

    private static void judging() {
        about("promise 16: -2: the TRAY, what; -6");
        run(TWO, "judge(0,0)!-6 judge(3,3)!-6 judge(4,0)!-2 judge(-1,0)!-2 judge(0,4)!-2 judge(0,-1)!-2 judge(4,4)!-2 judge(2147483647,0)!-2 judge(-2147483648,0)!-2 judge(0,2147483647)!-2 numbers(3,0,1) judge(3,0)=-1 judge(3,4)!-2 judge(2,0)!-6");
        about("promise 16: the first place that can't be (NONE), why (0)");
        run(TWO + ON, "numbers(0,0,0) judge(0,0)=-1 judge(0,1)=0 judge(0,2)=7 judge(0,3)=0 fill(0,2) judge(0,0)=-1 judge(0,1)=0 judge(0,2)=3 judge(0,3)=0 fill(0,2,2) judge(0,0)=1 judge(0,1)=2 judge(0,2)=3");
        run("stair 0;", "numbers(0,3,40) judge(0,0)=0 judge(0,1)=1");
        run("stair 0;", "fill(0,200,200,200,200,200,200,200,200,200,200,200,200,200,200,200,200,200,200,200,200,200,200,200,200,200,200,200,200,200,200,200,200,200,200,200,200,200,200,200,77) judge(0,0)=39 judge(0,1)=1 perform(0)=39 count(6)=39");
        run("stair 0;", "fill(0,77) numbers(1,0,0) judge(0,1)=1 judge(1,1)=0 judge(1,0)=-1 perform(0)=0 judge(1,1)=0 judge(0,0)=0");
        about("promise 16: 1 if it is FALLEN then, else 0; behind it nothing can be");
        run(TWO, "fill(0,0) judge(0,0)=-1 judge(0,1)=0 judge(0,2)=2 judge(0,3)=1 fill(0,0,-1) judge(0,0)=1 judge(0,1)=2 judge(0,3)=1 fill(0,0,200) judge(0,1)=2 fill(0,0,1) judge(0,1)=2 fill(0,0,77) judge(0,0)=1 judge(0,1)=1");
        about("promise 16: judged as if done: nothing is");
        run(TWO, "fill(0,200,-1,1) judge(0,0)!-1 judge(0,1)!0 judge(0,2)!1 judge(0,3)!1 count(6)=0 count(7)=0 count(2)=3 count(10)=0");
    }

    private static void performing() {
        about("promise 17: -2; -6");
        run(TWO, "perform(0)!-6 perform(3)!-6 perform(4)!-2 perform(-1)!-2 perform(2147483647)!-2 perform(-2147483648)!-2");
        about("promise 17: till one can't be: how many");
        run(TWO, "fill(0,200,201,77,200) perform(0)=2 count(6)=2 count(10)=1 undo(1)=0 count(6)=0 fill(0,77,200) perform(0)!0 numbers(0,0,0) perform(0)!0 fill(0,200) perform(0)=1 perform(0)=1 count(10)=2");
        run(TWO, "fill(0,0,200) perform(0)=1 stands()=0 perform(0)!0 undo(1)=0");
    }

    private static int draws;

    private static int draw() {
        draws = 1103515245 * draws + 12345;
        return draws >>> 16;
    }

    /** A seed whose draws tell so, by a number that is below 0 at some draw or isn't. */
    private static int seedFor(int sort, int first, int by, int second, boolean below) {
        for (int seed = 0; ; seed += 37) {
            draws = seed;
            boolean good = draw() % 5 == sort;
            boolean sign = draws < 0;
            if (by > 0) {
                good &= draw() % by == first;
                sign |= draws < 0;
            }
            if (second >= 0) {
                good &= draw() % 8 == second;
                sign |= draws < 0;
            }
            if (good && sign == below) return seed;
        }
    }

    private static void years() {
        about("promise 18: -3: how many times (1 to 40)");
        run(TWO, "year(1,0)!-3 year(1,41)!-3 year(1,-1)!-3 year(1,2147483647)!-3 year(1,-2147483648)!-3 year(0,1)=1 count(7)=1 count(10)=1");
        run("stair 0;", "year(0,1)=1 undo(1)=0 year(0,40) count(10)=1 undo(1)=0 count(7)=0");
        for (boolean below : new boolean[] {false, true}) {
            about("A YEAR: 0 a DAY");
            run(WIDE, "year(" + seedFor(0, 0, 0, -1, below) + ",1)=1 count(7)=1 count(10)=1");
            about("A YEAR: 1, 2 PERSON DRAW modulo 9 is SEEN");
            run(WIDE, "year(" + seedFor(1, 0, 9, -1, below) + ",1)=1 count(2)=510");
            run(WIDE, "year(" + seedFor(1, 8, 9, -1, below) + ",1)=1 count(2)=255");
            run(WIDE, "year(" + seedFor(2, 8, 9, -1, below) + ",1)=1 count(2)=255");
            run("stair 0;" + ON.repeat(8), "year(" + seedFor(2, 8, 9, -1, below) + ",1)!0");
            run("stair 0;" + ON.repeat(8), "year(" + seedFor(2, 7, 9, -1, below) + ",1)=1 count(2)=127 year(" + seedFor(1, 6, 9, -1, below) + ",1)!0");
            about("A YEAR: 3 PERSON DRAW modulo 9 MOVES to STEP DRAW modulo 8");
            run(WIDE, "year(" + seedFor(3, 8, 9, 7, below) + ",1)=1 person(8,0)=7");
            run(WIDE, "year(" + seedFor(3, 0, 9, 5, below) + ",1)=1 person(0,0)=5");
            run(WIDE, "year(" + seedFor(3, 0, 9, 6, below) + ",1)!0 year(" + seedFor(3, 0, 9, 0, below) + ",1)!0");
            run("stair 0 0;" + ON, "year(" + seedFor(3, 0, 9, 2, below) + ",1)!0 year(" + seedFor(3, 1, 9, 1, below) + ",1)!0 year(" + seedFor(3, 0, 9, 1, below) + ",1)=1");
            about("A YEAR: 4 STEP DRAW modulo 8 is PROPPED");
            run(WIDE, "year(" + seedFor(4, 7, 8, -1, below) + ",1)=1 step(7,2)=1 year(" + seedFor(4, 0, 8, -1, below) + ",1)=1 step(0,2)=1");
            run("stair 0;", "year(" + seedFor(4, 1, 8, -1, below) + ",1)!0 year(" + seedFor(4, 0, 8, -1, below) + ",1)=1 count(6)=1");
        }
        about("A YEAR: those that can't be are left out, the next ones go on");
        int seed = seedFor(4, 7, 8, -1, false);
        draws = seed;
        draw();
        draw();
        int then = draws;
        LeanStair x = told("stair 0;");
        LeanStair y = told("stair 0;");
        due("year: the first can't be", x.year(seed, 40), y.year(then, 39));
        due("year: then", x.count(7) * 100 + x.count(6), y.count(7) * 100 + y.count(6));
    }
}
