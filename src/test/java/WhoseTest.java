/** Whose fact, which STEP, which TRAY, which DAY: rows where another one's than the one meant would answer otherwise. */
public final class WhoseTest extends Runs {
    /** 120 on step 1, 294 on step 2 (244 alone), 118 on step 0 (68 alone); each DAY 2 more. */
    private static final String PEOPLE = "person on 1 build 10 age 5;person on 2 build 20 age 7;person on 0 build 30 age 9;couple 1 2;quota 9;"
        + "bears : build + age * 2 + step * 100 + who * 10 + wed * 50;";
    private static final String TRIED = "stair 20;person on 0 build 5;person on 0 build 10;person on 0 build 9;";

    public static void main(String[] args) {
        borne();
        held();
        brought();
        newcomers();
        laterDays();
        tried();
        likely();
        played();
        finish();
    }

    private static void borne() {
        about("a law tells by the PERSON's own number, build, age, STEP, couple");
        run("stair 118 120 294;" + PEOPLE, "person(0,7)=120 person(1,7)=294 person(2,7)=118 step(0,1)=118 step(1,1)=120 step(2,1)=294 count(9)=532 stands()=1 spare()=0 crack(0)=-1 sinks()=-1 "
            + "numbers(0,3,3) lists(0)=3 days(1)=1 step(0,1)=120 step(1,1)=122 step(2,1)=296 spare()=2");
        run("stair 119 120 294;" + PEOPLE, "stands()=0 crack(0)=0 crack(1)=0 mends(10)=1 mends(0)=1");
        run("stair 118 121 294;" + PEOPLE, "stands()=0 crack(0)=0 crack(1)=1 mends(11)=1 mends(0)=1");
        run("stair 118 120 295;" + PEOPLE, "stands()=0 crack(0)=0 crack(1)=2 mends(12)=1 mends(0)=1");
        run("stair 0 0 0;" + PEOPLE, "see(2)=2 step(2,1)=244 person(1,7)=244 see(1)=1 step(2,1)=0 step(1,1)=120 undo(2)=0 see(0)=2 step(2,1)=294 step(0,1)=118");
        run("stair 0 0 0;" + PEOPLE + "may : who = 0 and age = 5 and step = 1 and build = 10 and wed = 0 or who = 2 and age = 9 and step = 0 and build = 30 and wed = 1;", "see(1)!-14 see(2)=2 see(1)!-14 see(0)=1");
    }

    private static void held() {
        about("HOLDING: by each one's own facts, wed by these");
        run("stair 118 120 294;" + PEOPLE, "holds(7)=1 holds(6)=0 holds(5)=0 holds(3)=0 holdings()=1 needed()=7 fewest(1)=7 most(1)=0");
        run("stair 119 120 294;" + PEOPLE, "holds(7)=0");
        run("stair 118 121 294;" + PEOPLE, "holds(7)=0");
        run("stair 118 120 295;" + PEOPLE, "holds(7)=0");
        run("stair 0 0 244;" + PEOPLE, "holds(2)=1 holds(1)=0 holds(4)=0 fewest(1)=2 most(1)=5");
        run("stair 0 0 245;" + PEOPLE, "holds(2)=0 holds(3)=0 holds(6)=1 fewest(1)=6 needed()=6");
        run("stair 68 0 0;" + PEOPLE, "holds(4)=1 holds(3)=0");
        run("stair 69 0 0;" + PEOPLE, "holds(4)=0 holds(5)=0 holds(6)=1");
        run("stair 0 120 0;" + PEOPLE, "holds(1)=1 holds(6)=0 needed()=1");
        run("stair 0 121 0;" + PEOPLE, "holds(1)=0 holds(7)=0 mends(0)=1");
    }

    private static void brought() {
        about("one who is BROUGHT counts like all others");
        run("stair 5;person on 0 build 5;quota 9;", "bring(0,5)=1 needed()=0 holdings()=3 see(0)=1 needed()=2 holdings()=1 fewest(1)=2 most(1)=0 crack(0)=-1 spare()=0");
        run("stair 5;person on 0 build 5;", "bring(0,0)=1 wins()=1 best()=1 lasts()=2 swap(0)=1 most(1)=2 fewest(1)=1");
        run("stair 2;person on 0 build 1;person on 0 build 1;", "bring(0,5)=2 pillar()=2 share(2,0)=3 share(2,1)=4 share(0,0)=1 share(0,1)=4 fewest(1)=4 most(1)=3 holdings()=5");
        run(TRIED, "bring(0,15)=3 fill(0,1) builds(0,0)=100 trial(0,0)=3 builds(0,3)=100 fill(0,7) builds(0,3)=89 bound(0,3,0)=11");
        run("stair 5;person on 0 build 5 frail 5;", "chance(1)=2 bring(0,5)=1 chance(0)=1 chance(1)=1 instead(1)=0 move(1,0)!-12 where(0)=0");
        about("who can be SEEN in time are those who have a by, though the first has none");
        run("stair 0;person on 0 build 1;person on 0 build 1 by 1;person on 0 build 1 by 1;", "served(1)=6 days(1)=1 served(0)=1 served(1)=2 see(0)=2 served(0)=0");
    }

    private static void newcomers() {
        about("one BROUGHT: by its own number, its STEP, of age 0, today");
        run("stair 0 30;person on 1 build 20;bears : build + step * 10;", "instead(0)=20 swap(20)=0 swap(19)=-1");
        run("stair 30;person on 0 build 30;bears : build * (who + 1);", "instead(0)=15 bring(0,0)=1 instead(0)=10 swap(9)=1 bring(0,0)=2 instead(0)=8");
        run("stair 5;person on 0 build 20;bears : build - day;", "days(3)=3 instead(0)=8 swap(8)=0 swap(7)=-1 days(4)=4 instead(0)=5");
        run("stair 5 5;person on 0 build 6;person on 1 build 5;", "swap(7)=1 swap(5)=0 swap(4)=-1");
        run("stair 5 5;person on 0 build 6;person on 1 build 2;bears : build + step * 3;", "swap(3)=1 swap(5)=1 swap(2)=1 swap(1)=-1");
        run("stair 5 5;person on 1 build 2;person on 0 build 6;bears : build + step * 3;", "swap(3)=0 swap(2)=0 swap(1)=-1 instead(0)=2 instead(1)=5");
        about("STEPS to which one is BROUGHT are tried one by one");
        run("stair 0 3 3;person on 1 build 0 frail 5;person on 2 build 0 frail 4;bears : build + step * 3;", "where(1)=1 where(0)=1");
        run("stair 3 3 0;person on 0 build 9 frail 4;person on 1 build 0 frail 5;bears : build + step * 3;", "where(2)=1 where(3)=1");
        run("stair 3 3 0;person on 0 build 9 frail 5;person on 1 build 0 frail 4;bears : build + step * 3;", "where(2)=1 where(3)=0");
    }

    private static void laterDays() {
        about("one BROUGHT: by the DAY that is then");
        String byDay = "stair 5 5;joint 0 takes 99;person on 0 build 0;bears : (1 - who) * (10 - day) + who * ((1 - step) * 3 + step * day);day 7;";
        run(byDay, "sinks()=1 stay(9)=1 bring(1,9)=1 sinks()=-1 undo(1)=0 bring(0,9)=1 sinks()=4");
        about("one BROUGHT: of the age that it has then");
        String byAge = "stair 5 5;joint 0 takes 99;person on 0 build 12;bears : (1 - who) * (build - age) + who * ((1 - step) * (build - age) + step * age);";
        run(byAge, "sinks()=3 stay(3)=1 bring(1,3)=1 sinks()=-1 undo(1)=0 bring(0,3)=1 sinks()=3");
        run(byAge, "days(2)=2 sinks()=1 stay(3)=1 bring(0,3)=1 sinks()=2 undo(1)=1 bring(1,3)=1 sinks()=-1 person(1,7)=0 days(3)=3 person(1,7)=3");
        about("SERVING: from today on");
        run("stair 0;person on 0 build 1 by 1;person on 0 build 1 by 1;", "served(0)=2 days(1)=1 served(0)=1 served(1)=1 days(1)=1 served(0)=0");
        run("stair 0;person on 0 build 1 by 8;person on 0 build 1 by 8;couple 0 1;quota 2;day 7;", "served(1)=3 days(1)=1 served(1)=3 days(1)=1 served(1)=0");
    }

    private static void tried() {
        about("ROOMS: by the PERSON's own number, age, STEP, couple");
        // Of step 1: b + 22 with the third, who bears 24; b + 18 alone.
        String text = "stair 0 50;person on 0 build 1;person on 1 build 9 age 3;person on 1 build 0;couple 1 2;bears : build + age + step * 10 + who * 5 + wed * 4;";
        run(text, "stands()=1 fill(0,1) builds(0,1)=96 bound(0,1,0)=4 bound(0,1,1)=99 trial(0,1)=2 fill(0,9) builds(0,1)=68 bound(0,1,0)=32 fill(0,1,8) builds(0,1)=28 bound(0,1,1)=31 trial(0,1)=0 builds(0,0)=100");
        run(TRIED, "fill(0,1,2) builds(0,1)=5 trial(0,1)=0 builds(0,0)=99 trial(0,0)=1");
        run("stair 20;person on 0 build 5;person on 0 build 10;person on 0 build 9;bears : build + who;", "fill(0,1) bound(0,0,0)=0 bound(0,1,0)=3 bound(0,2,0)=2");
        about("ROOMS: by the TRAY that is told");
        run(TRIED, "fill(0,1) fill(2,1,4) fill(3,3) builds(0,0)=99 builds(2,0)=10 builds(3,0)=0 bound(0,0,0)=1 bound(0,0,1)=99 bound(2,0,1)=10 bound(3,0,1)=-1 trial(0,0)=1 trial(2,0)=2 trial(3,0)=-1 builds(1,0)!-6");
        about("DEEDS: by the TRAY that is told");
        run(TRIED + "quota 9;", "fill(1,200) fill(3,-1,77) judge(1,0)=-1 judge(3,0)=1 perform(3)=1 count(7)=1 count(6)=0 perform(1)=1 count(6)=1 numbers(2,3,1) lists(2)=1 judge(1,0)=-1 judge(2,1)=1 judge(0,0)!-6");
    }

    private static void likely() {
        about("SHARE, CHANCE: by each one's own facts");
        run("stair 0 0 245;" + PEOPLE, "share(0,0)=0 share(0,1)=1 share(1,0)=1 share(1,1)=2 share(2,0)=1 share(2,1)=2 pillar()=1");
        run("stair 69 0 0;person on 1 build 10 frail 3;person on 2 build 20 age 7 frail 4;person on 0 build 30 age 9 frail 1;couple 1 2;bears : build + age * 2 + step * 100 + who * 10 + wed * 50;",
            "chance(0)=27 chance(1)=50 needed()=6");
        run("stair 5;person on 0 build 5 frail 9;person on 0 build 5 frail 1;quota 2;", "chance(0)=91 chance(1)=100 see(0)=1 chance(0)=9 chance(1)=10");
    }

    private static void played() {
        about("THE GAME: wins by as few as can be, whichever comes first");
        String on = "person on 0 build 1;";
        run("stair 3;person on 0 build 3;" + on + on + on, "wins()=1 best()=0 lasts()=2");
        run("stair 3;" + on + "person on 0 build 3;" + on + on, "wins()=1 best()=0 lasts()=2");
        run("stair 3;" + on + on + on + "person on 0 build 3;", "wins()=1 best()=0 lasts()=2");
        run("stair 3;person on 0 build 3;" + on + on, "wins()=0 best()=-1 lasts()=3");
        run("stair 3;" + on + "person on 0 build 3;" + on, "wins()=0 best()=-1 lasts()=3");
        about("THE GAME: by those who are there alone");
        run("stair 3;" + on + on + on + "person on 0 build 3;", "see(3)=3 wins()=0 best()=-1 lasts()=1 undo(1)=0 see(0)=3 wins()=0 lasts()=3");
    }
}
