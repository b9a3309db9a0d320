/** Each sentence of the document that names an edge of trays, of images, of what is counted: promises 41 to 46. */
public final class EdgesOfTraysTest extends Runs {
    private static final String ON = "person on 0 build 1;";
    /** Three steps, of which the first bears 300, the second 31, the third 128. */
    private static final String THREE = "stair 0 0 0;person on 0 build 99;person on 1 build 21;person on 2 build 99;bears : (1 - who) * (2 - who) * 150 + who * (2 - who) * 21 + who * (who - 1) * 64;";

    public static void main(String[] args) {
        missing();
        begun();
        written();
        cut();
        listed();
        images();
        restored();
        counted();
        finish();
    }

    private static void missing() {
        about("TRAYS 0 to 3 are MISSING at first");
        for (int tray = 0; tray < 4; tray++) {
            String t = "(" + tray;
            run("stair 0;" + ON, "judge" + t + ",0)!-6 perform" + t + ")!-6 builds" + t + ",0)!-6 bound" + t + ",0,0)!-6 trial" + t + ",0)!-6 write" + t + ",0,0)!-6 lists" + t + ")!-6");
            run("stair 0;" + ON, "numbers" + t + ",0,0)=0 judge" + t + ",0)=-1 perform" + t + ")=0 builds" + t + ",0)!-4 bound" + t + ",0,0)!-4 trial" + t + ",0)!-4 write" + t + ",0,0)!-7 lists" + t + ")=0");
        }
        about("a refused numbers() leaves it MISSING");
        run("stair 0;", "numbers(0,0,41)!-3 numbers(0,4,1)!-2 judge(0,0)!-6 write(0,0,0)!-6");
        about("TRAYS stay, whatever text is read, whatever is UNDONE");
        run("stair 0;", "fill(1,200,200) tell(0)=1 judge(1,0)=-1 write(1,2,0)!-7 tell(1)~-32 write(1,1,201)=201 judge(1,0)=-1", "stair 0 0;", "stair");
        run("stair 0;", "prop(0)=1 fill(1,200) undo(1)=0 judge(1,0)=-1 write(0,0,0)!-6");
    }

    private static void begun() {
        about("promise 41: -2: no such TRAY, sort; -3: n is below 0 or above 40, and the TRAY stays");
        run("stair 0;", "numbers(-1,0,1)!-2 numbers(4,0,1)!-2 numbers(2147483647,0,1)!-2 numbers(-2147483648,0,1)!-2 numbers(0,-1,1)!-2 numbers(0,4,1)!-2 numbers(0,2147483647,1)!-2 numbers(0,-2147483648,1)!-2 "
            + "numbers(0,0,-1)!-3 numbers(0,0,41)!-3 numbers(0,0,2147483647)!-3 numbers(0,0,-2147483648)!-3");
        run("stair 0;", "numbers(4,0,41)!-2 numbers(0,4,41)!-2 numbers(-1,-1,-1)!-2");
        run("stair 0;", "fill(2,200,-1,200) numbers(2,0,41)!-3 numbers(2,0,-1)!-3 numbers(2,4,1)!-2 judge(2,0)=-1 write(2,2,4294967296)=4294967296 judge(2,0)=2");
        about("promise 41: n numbers: 0 to 40");
        run("stair 0;", "numbers(0,0,0)=0 write(0,0,1)!-7 numbers(0,0,1)=0 write(0,0,1)=1 write(0,1,1)!-7 numbers(0,3,40)=0 write(0,39,1)=1 write(0,40,1)!-7 numbers(3,3,40)=0 write(3,39,5)=5");
        about("promise 41: all 0 (in place of another one)");
        run("stair 0;" + ON.repeat(2) + "quota 9;", "fill(0,200,200,200) numbers(0,2,3)=0 judge(0,0)=1 judge(0,1)=2 judge(0,2)=2 numbers(0,3,1)=0 judge(0,0)=-1 judge(0,2)=2 write(0,1,1)!-7");
        run("stair 0;" + ON, "fill(0,1,1,1,1,1,1,1,1,1,1) numbers(0,1,2)=0 numbers(0,1,10)=0 builds(0,0)=0");
    }

    private static void written() {
        about("promise 42: -2: no such TRAY; -6; -7");
        run("stair 0;", "write(-1,0,1)!-2 write(4,0,1)!-2 write(2147483647,0,1)!-2 write(-2147483648,-1,1)!-2 write(0,0,1)!-6 write(0,-1,1)!-6 numbers(0,0,3) write(0,-1,1)!-7 write(0,3,1)!-7 write(0,2147483647,1)!-7 write(0,-2147483648,1)!-7 "
            + "write(0,0,1)=1 write(0,2,1)=1 write(1,0,1)!-6 write(4,3,1)!-2");
        about("promise 42: number i, and no other one");
        run("stair 0 0;", "fill(0,200,200,200) write(0,1,77)=77 judge(0,0)=1 write(0,1,201)=201 judge(0,0)=-1 write(0,2,77)=77 judge(0,0)=2 write(0,0,77)=77 judge(0,0)=0");
    }

    private static void cut() {
        about("promise 42: cut to its sort: as it is there");
        run(null, "numbers(0,0,1) write(0,0,127)=127 write(0,0,128)=-128 write(0,0,255)=-1 write(0,0,256)=0 write(0,0,-128)=-128 write(0,0,-129)=127 write(0,0,9223372036854775807)=-1 write(0,0,-9223372036854775808)=0");
        run(null, "numbers(0,1,1) write(0,0,32767)=32767 write(0,0,32768)=-32768 write(0,0,65535)=-1 write(0,0,65536)=0 write(0,0,-32768)=-32768 write(0,0,-32769)=32767 write(0,0,9223372036854775807)=-1 write(0,0,-9223372036854775808)=0 write(0,0,128)=128");
        run(null, "numbers(0,2,1) write(0,0,2147483647)=2147483647 write(0,0,2147483648)=-2147483648 write(0,0,4294967295)=-1 write(0,0,4294967296)=0 write(0,0,-2147483648)=-2147483648 write(0,0,-2147483649)=2147483647 "
            + "write(0,0,9223372036854775807)=-1 write(0,0,-9223372036854775808)=0 write(0,0,32768)=32768");
        run(null, "numbers(0,3,1) write(0,0,9223372036854775807)=9223372036854775807 write(0,0,-9223372036854775808)=-9223372036854775808 write(0,0,2147483648)=2147483648 write(0,0,-1)=-1");
        about("what is cut is so in DEEDS and TRIALS, too");
        run("stair 0;" + ON, "numbers(0,0,1) write(0,0,200)=-56 judge(0,1)=1 write(0,0,256) judge(0,1)=0 write(0,0,255) judge(0,2)=1 judge(0,1)=0 builds(0,0)!-3 write(0,0,257) builds(0,0)=100");
        run("stair 0;", "numbers(0,1,1) write(0,0,200)=200 judge(0,1)=0 write(0,0,65736)=200 judge(0,1)=0 numbers(0,2,1) write(0,0,4294967496)=200 judge(0,1)=0 numbers(0,3,1) write(0,0,4294967496) judge(0,1)=1");
    }

    private static void listed() {
        about("promise 43: -2; -6");
        run(THREE, "lists(-1)!-2 lists(4)!-2 lists(2147483647)!-2 lists(-2147483648)!-2 lists(0)!-6 lists(3)!-6");
        about("promise 43: as far as it has places: how many");
        run(THREE, "step(0,1)=300 step(1,1)=21 step(2,1)=128 numbers(0,3,0) lists(0)!0 numbers(0,3,1) lists(0)=1 numbers(0,3,2) lists(0)=2 numbers(0,3,3) lists(0)=3 numbers(0,3,4) lists(0)=3 numbers(0,3,40) lists(0)=3");
        run("stair 0 0 0 0 0 0 0 0;", "numbers(0,3,40) lists(0)=8 numbers(0,3,7) lists(0)=7");
        run("stair 0 0 0;", "prop(1)*20=20 fill(0,77,77,77,77) lists(0)=3 judge(0,0)=0 judge(0,1)=1");
        String props = "stair 0 0 0;person on 0 build 1;person on 1 build 1;person on 2 build 1;bears : 200 + who;";
        run(props, "fill(0,77,77,77,77) lists(0)=3 judge(0,0)=3 judge(0,1)=1 perform(0)=3 step(0,2)=1 step(1,2)=1 step(2,2)=1 count(6)=3 fill(0,77,77) lists(0)=2 judge(0,0)=0");
        run(props, "fill(0,77,77) lists(0)=2 judge(0,0)=-1 perform(0)=2 step(2,2)=0");
        about("promise 43: what is listed is cut to the sort");
        run(THREE, "numbers(0,0,3) lists(0)=3 judge(0,0)=0 judge(0,1)=1");
        run("stair 0;" + ON + "bears : 256;", "numbers(0,0,1) lists(0)=1 judge(0,1)=0 judge(0,2)=0 numbers(0,1,1) lists(0)=1 judge(0,1)=1");
        run("stair 0;" + ON + "bears : 255;", "numbers(0,0,1) lists(0)=1 judge(0,1)=0 judge(0,2)=1 numbers(0,1,1) lists(0)=1 judge(0,1)=1");
        about("promise 43: what STEPS BEAR today");
        run("stair 0;" + ON + "bears : 200 + age;", "step(0,1)=200 numbers(0,3,1) lists(0)=1 judge(0,1)=0 days(1)=1 lists(0)=1 judge(0,1)=1");
        about("promise 43: nothing else changes");
        run("stair 0;", "numbers(0,3,0) lists(0)!0 count(10)=0");
    }

    private static void images() {
        about("promise 44: IMAGES 0 to 1: -2");
        run("stair 0;", "prop(0)=1 image(-1)!-2 image(2)!-2 image(2147483647)!-2 image(-2147483648)!-2 restore(0)!-5 restore(1)!-5 image(0)=0 restore(1)!-5 image(1)=0 restore(1)=0 restore(0)=0");
        about("promise 44: in place of another one");
        run("stair 0;", "prop(0)=1 image(0)=0 prop(0)=2 image(0)=0 prop(0)=3 restore(0)=0 count(6)=2");
        about("promise 44: what can be UNDONE stays as it is");
        run("stair 0;", "prop(0)*2=2 image(0)=0 count(10)=2 undo(2)=0 count(6)=0 restore(0)=0 count(6)=2 count(10)=0");
    }

    private static void restored() {
        about("promise 45: -2; -5: none was made");
        run("stair 0;", "restore(0)!-5 restore(1)!-5 restore(2)!-2 restore(-1)!-2 restore(2147483647)!-2 restore(-2147483648)!-2 prop(0)=1 image(1)=0 restore(0)!-5 restore(2)!-2 restore(1)=0");
        about("promise 45: nothing can be UNDONE behind");
        run("stair 0;", "prop(0)=1 image(0)=0 prop(0)=2 prop(0)=3 count(10)=3 restore(0)=0 count(10)=0 undo(1)!-3 prop(0)=2 undo(1)=0 count(6)=1 undo(1)!-3");
        about("promise 45: THE STAIR and all that UNDOING could bring back");
        String rich = "stair 4 9 6;joint 0 takes 5;joint 1 takes 8;person on 0 build 18 by 9;person on 1 build 22 frail 2;person on 1 build 15 age 30 by 7;person on 2 build 25 frail 5 by 8;couple 0 2;quota 2;"
            + "bears : build - age + wed;may : not who = 1;day 3;";
        run(rich, "prop(1)=1 days(2)=2 image(0)=0 bring(2,7)=4 see(3)=4 move(4,1)=1 prop(0)=1 days(9)=9 restore(0)=0"
            + " count(1)=4 count(2)=15 count(4)=0 count(6)=1 count(7)=5 person(2,2)=32 person(4,0)!-2 step(0,2)=0 see(1)!-14");
        run(rich, "image(0)=0 see(0)=3 see(2)=2 image(1)=0 tell(0)=3 count(0)=1 restore(1)=0 count(0)=3 count(2)=10 count(4)=2 count(5)=2 count(12)=12 see(3)!-13 see(1)!-13 person(2,5)=0 step(1,4)=8 restore(0)=0 count(2)=15 count(4)=0 "
            + "person(0,7)=19 person(1,3)=2 person(3,4)=8", "stair 1;quota 9;day 9;");
        run(null, "image(1)=0 tell(0)=2 count(1)=1 restore(1)=0 count(0)=1 count(1)=0 count(12)=0 person(0,0)!-2", "stair 5 5;" + ON);
        about("promise 45: it can be restored again and again, whatever is done behind");
        run("stair 0 0;" + ON, "image(0)=0 move(0,1)=1 days(1)=1 restore(0)=0 person(0,0)=0 move(0,1)=1 see(0)=0 restore(0)=0 person(0,0)=0 person(0,6)=1 count(7)=0");
        about("promise 45: a FALLEN one is FALLEN, a standing one stands");
        run("stair 1;" + ON, "image(0)=0 see(0)=0 image(1)=0 restore(0)=0 stands()=1 restore(1)=0 stands()=0 prop(0)!-12 restore(0)=0 prop(0)=1");
        about("promise 45: the tape, its latest fault and TRAYS stay");
        run("stair 0;", "image(0)=0 tell(0)~-32 fill(2,200) feed(1,1,1,1,1) restore(0)=0 fault(0)=2 fault(1)=0 count(11)=20 judge(2,0)=-1", "x");
    }

    private static void counted() {
        about("promise 46: NONE for others");
        run("stair 0;", "count(13)!-1 count(-1)!-1 count(2147483647)!-1 count(-2147483648)!-1 count(12)=1");
        about("promise 46: each by itself");
        run("stair 7 8 9;joint 0 takes 3;joint 1 takes 3;person on 0 build 20;person on 1 build 21;person on 2 build 22;person on 2 build 2;quota 3;day 30;",
            "count(0)=3 count(1)=4 count(2)=15 count(3)=0 count(4)=0 count(5)=3 count(6)=0 count(7)=30 count(8)=24 count(9)=65 count(10)=0 count(11)=0 count(12)=9 "
            + "see(3)=3 count(1)=4 count(2)=7 count(4)=1 count(9)=63 bring(0,4)=4 count(1)=5 count(2)=23 count(9)=67 prop(2)=1 count(6)=1 count(9)=77 days(2)=2 count(7)=32 count(4)=0 count(10)=4 feed(0,0,0,0,0) count(11)=20 see(0)=3 count(3)=0 see(1)=2 count(3)=1 count(4)=2 count(8)=24");
        run("stair 999 999 999 999 999 999 999 999;", "count(8)=7992 count(9)=0 count(3)=1");
        run("stair 0;" + ON.repeat(9) + "bears : 999;", "count(9)=8991 prop(0)*99=99 count(9)=9981 count(6)=99");
    }
}
