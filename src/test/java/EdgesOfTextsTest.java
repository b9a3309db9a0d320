/** Each sentence of the document that names an edge of texts, of the tape, of a new object; '|' marks where the fault is. */
public final class EdgesOfTextsTest extends Runs {
    /** All sorts of things are so, that a text with a fault might change. */
    private static final String RICH = "stair 4 9 6;joint 0 takes 5;joint 1 takes 8;person on 0 build 18 by 9;person on 1 build 22 frail 2;"
        + "person on 1 build 15 age 30 by 7;person on 2 build 25 frail 5 by 8;couple 0 2;quota 2;may : not who = 1;day 3;";
    private static final String DONE = "prop(1) days(2) image(0) see(0) bring(2,7) fill(0,200,-1,2) fill(1,1,9) ";
    private static final String NINE = "stair 0;" + "person on 0 build 1;".repeat(9);

    public static void main(String[] args) {
        newObject();
        tape();
        reading();
        told();
        tokens();
        stairLines();
        jointLines();
        personLines();
        coupleLines();
        quotaAndDayLines();
        laterOnes();
        laws();
        nesting();
        firstFault();
        finish();
    }

    private static void whole(String text) {
        at(text, 0, -1);
    }

    /** The text has its first fault at '|', and told to a stair it leaves all as it was. */
    private static void slip(int kind, String marked) {
        int place = marked.indexOf('|');
        String text = marked.substring(0, place) + marked.substring(place + 1);
        at(text, kind, place);
        run(RICH, DONE + "tell(0)~" + (-30 - kind) + " fault(0)=" + kind + " fault(1)=" + place + " count(11)=0", text);
    }

    /** The tape has more than the text, which ends at '|': where it is cut too early, there is the fault. */
    private static void cutAt(String marked, int want) {
        int n = marked.indexOf('|');
        LeanStair x = new LeanStair();
        feed(x, marked.replace("|", ""));
        due("stair(" + n + ") of '" + marked + "'", x.stair(n), want);
        due("fault(1) of '" + marked + "'", x.fault(1), want < 0 ? n : -1);
        due("count(11) of '" + marked + "'", x.count(11), 0);
    }

    private static void newObject() {
        about("promise 1: 1 STEP of LOAD 0, no PEOPLE");
        run(null, "count(0)=1 count(1)=0 count(2)=0 count(3)=0 count(4)=0 count(5)=1 count(6)=0 count(7)=0 count(8)=0 count(9)=0 count(10)=0 count(11)=0 count(12)=0");
        run(null, "step(0,0)=0 step(0,1)=0 step(0,2)=0 step(0,3)=0 step(0,4)=0 step(1,0)!-2 step(-1,0)!-2 person(0,0)!-2 stands()=1 crack(0)=-1 crack(1)=-1 spare()=0");
        run(null, "see(0)!-11 move(0,0)!-11 undo(1)!-3 instead(0)!-2 share(0,0)!-2 pillar()=-1 wins()=0 best()=-1 lasts()=0 chance(0)=1 chance(1)=1");
        run(null, "holds(0)=1 holds(1)!-3 fewest(0)=0 fewest(1)=0 most(0)=0 most(1)=0 served(0)=0 served(1)=0 swap(0)=-1 props(0)=0 mends(10)=0 sinks()=-1 stay(0)=0 where(0)=0");
        run(null, "bring(0,0)=0 prop(0)=1 days(99)=99 count(7)=99");
        run(null, "restore(0)!-5 restore(1)!-5 judge(0,0)!-6 judge(3,0)!-6 perform(0)!-6 lists(3)!-6 write(3,0,1)!-6");

        about("for at most 512 calls");
        LeanStair x = new LeanStair();
        for (int i = 0; i < 255; i++) {
            due("prop(0), call " + (2 * i + 1), x.prop(0), 1);
            due("undo(1), call " + (2 * i + 2), x.undo(1), 0);
        }
        due("prop(0), call 511", x.prop(0), 1);
        due("count(6), call 512", x.count(6), 1);

        about("the constants");
        due("NONE", LeanStair.NONE, -1);
    }

    private static void tape() {
        about("promise 2: how many it has; -5: it would have more than 900");
        run(null, "count(11)=0 feed(0,0,0,0,0)=20 count(11)=20 feed(0,0,0,0,0)*42 feed(-1,-1,-1,-1,-1)=880 feed(1,1,1,1,1)=900 feed(2,2,2,2,2)!-5 count(11)=900 feed(0,0,0,0,0)!-5");
        run(null, "feed(0,0,0,0,0)*45 feed(0,0,0,0,0)!-5 stair(901)!-3 stair(0) feed(0,0,0,0,0)=20");

        about("promise 2: the highest of each int first");
        LeanStair x = new LeanStair();
        x.feed(0x73746169, 0x72203939, 0x393b0a20, 0x7f80fe01, 0xff000000);
        due("stair(11)", x.stair(11), 1);
        due("step(0, 0)", x.step(0, 0), 999);
        int[] signs = {0x7f, 0x80, 0xfe, 0x01, 0xff};
        for (int i = 0; i < signs.length; i++) {
            x.feed(0x73746169, 0x7220373b, signs[i] << 24, 0, 0);
            due("a byte " + signs[i], x.stair(9), -31);
            due("its place", x.fault(1), 8);
        }
    }

    private static void reading() {
        about("a TEXT of at most 900 bytes");
        String blanks = " ".repeat(900);
        due("900 bytes", tell(new LeanStair(), ("stair 5;" + blanks).substring(0, 900)), 1);
        slip(2, "stair 5;" + blanks.substring(0, 891) + "|x");
        slip(1, "stair 5;" + blanks.substring(0, 891) + "|X");
        slip(2, "stair 5" + blanks.substring(0, 893) + "|");
        for (String word : "s stai jo joint person pe c quot bears ma d day".split(" ")) {
            String end = ("stair 5;" + blanks).substring(0, 900 - word.length());
            boolean line = "joint person bears day".contains(word) && word.length() > 2;
            slip(2, line ? end + word + "|" : end + "|" + word);
        }
        slip(2, ("stair 5;may:wait>9 and" + blanks).substring(0, 898) + "|wa");
        slip(2, ("stair 5;may:wait>9 and" + blanks).substring(0, 896) + "wait|");
        slip(2, ("stair 5;bears:build-1*" + blanks).substring(0, 898) + "|st");
        slip(2, ("stair 5;day" + blanks).substring(0, 897) + "999|");
        slip(1, ("stair 5;day" + blanks).substring(0, 896) + "|9999");
        slip(2, "|" + ";".repeat(900));
        slip(2, "stair 5;|" + ";".repeat(892));
        String law = "stair 0;person on 0 build 1;bears : 1" + "+1".repeat(431) + ";";
        due("its length", law.length(), 900);
        run(law, "person(0,7)=432 count(12)=3");

        about("promise 3: -3: n is below 0 or above what there is (THE TAPE stays)");
        run(null, "stair(1)!-3 stair(-1)!-3 stair(2147483647)!-3 stair(-2147483648)!-3");
        run(RICH, DONE + "feed(1937006953,1914713376,540091424,808460091,538976288) stair(21)!-3 stair(-1)!-3 stair(2147483647)!-3 stair(-2147483648)!-3 count(11)=20 fault(0)=0");
        run(null, "feed(1937006953,1914713915,538976288,538976288,538976288) stair(21)!-3 stair(20)=1 step(0,0)=7");
        run(null, "feed(1937006953,1914713915,538976288,538976288,538976288) stair(8)=1 count(11)=0 stair(1)!-3");

        about("promise 3: the first n bytes; THE TAPE is empty then");
        run(null, "feed(1937006953,1914713915,1713411890,538976288,538976288) stair(8)=1 count(11)=0 step(0,0)=7 stair(1)!-3");
        run(null, "feed(1937006953,1914713915,1713411890,538976288,538976288) stair(9)=-32 fault(1)=8 count(11)=0");
        run(null, "feed(1937006953,1914713915,538976288,538976288,538976288) stair(7)=-32 fault(1)=7 count(11)=0 step(0,0)=0");
        run(RICH, "stair(0)~-32 fault(0)=2 fault(1)=0 count(11)=0");
        cutAt("stair 1;|2", 1);
        cutAt("stair |12;", -32);
        cutAt("stair 1|2;", -32);
        cutAt("stair 1;day|s 1;", -32);
        cutAt("stair 1;day| 1;", -32);
        cutAt("stair 1;quota 9|9;", -32);
        cutAt("stair 1;day 999|9;", -32);
        cutAt("stair 1;day 99|; ?", -32);
        cutAt("stair 1;day 99;|?", 2);

        about("promise 3: all are there, no PROPS, nothing can be UNDONE");
        run(RICH, DONE + "count(10)=4 tell(0)=3 count(2)=3 count(6)=0 count(10)=0 count(4)=0 count(7)=0 count(5)=1 count(3)=0 undo(1)!-3 person(0,6)=1 person(0,4)=-1 person(0,5)=-1 step(1,0)!-2",
            "stair 1;person on 0 build 1;person on 0 build 0;");
        run(NINE, "count(2)=511 count(1)=9");
        run("stair 0 0 0 0 0 0 0 0;", "prop(0) prop(1) prop(2) prop(3) prop(4) prop(5) prop(6) prop(7) count(6)=8 tell(0)=1 count(6)=0 step(0,2)=0 step(7,2)=0 step(0,1)=0 count(9)=0", "stair 0 0 0 0 0 0 0 0;");

        about("promise 3: FALLEN if it doesn't STAND");
        run("stair 5;person on 0 build 5;", "count(3)=0 stands()=1");
        run("stair 6;person on 0 build 5;", "count(3)=1 stands()=0 prop(0)!-12");
        run("stair 1;", "count(3)=1 tell(0)=1 count(3)=0 tell(1)~-32 count(3)=0", "stair 0;", "stair 1");

        about("promise 3: how many LINES, stair too");
        run("stair 0;", "count(12)=1");
        run("stair 0;day 1;day 1;", "count(12)=3 tell(0)~-32 count(12)=3 tell(1)=1 count(12)=1", "stair 0;day 1", "stair 0;");
    }

    private static void told() {
        about("promise 4: of the latest stair() that was read: its FAULT (0), its place (NONE)");
        run(null, "fault(0)=0 fault(1)=-1 fault(2)=-1 fault(-1)=-1 fault(2147483647)=-1 fault(-2147483648)=-1");
        run(null, "tell(0)=-34 fault(0)=4 fault(1)=188 stair(1)!-3 fault(0)=4 fault(1)=188 fault(2)=-1 tell(1)=1 fault(0)=0 fault(1)=-1",
            NINE + "person", "stair 1;");
        run(null, "tell(0)=-31 fault(0)=1 tell(1)=-33 fault(0)=3 fault(1)=14", "?", "stair 1;quota 0;");
    }

    private static void tokens() {
        about("TOKENS: words (small letters), N, signs, between them blanks (10, 32); else 1");
        String signs = ";:+-*()[]=<>";
        for (char c = 0; c < 256; c++) {
            boolean token = c >= 'a' && c <= 'z' || c >= '0' && c <= '9' || signs.indexOf(c) >= 0;
            if (c == 10 || c == 32) whole("stair 1;" + c);
            else at("stair 1;" + c, token ? 2 : 1, 8);
            if (c == 10 || c == 32) whole("stair" + c + "1;");
            else if (!token) at("stair" + c + "1;", 1, 5);
        }
        about("TOKENS: as long as they go on");
        slip(2, "|stairs 1;");
        slip(2, "|stai r 1;");
        slip(2, "|s 1;");
        slip(1, "stair |\u00a01;");
        whole("stair1;");
        whole("stair 1 1;joint0takes1;");
        whole("\n \nstair\n1\n;\n");
        run("stair 12 3;", "count(0)=2 step(0,0)=12 step(1,0)=3");
        run("stair 123;", "count(0)=1 step(0,0)=123");
        run("stair 1 23;", "step(0,0)=1 step(1,0)=23");
        about("N: 1 to 3 digits; 4 and more: 1, at their first");
        run("stair 0 00 000 9 09 009 999;", "count(0)=7 step(2,0)=0 step(5,0)=9 step(6,0)=999");
        slip(1, "stair |0000;");
        slip(1, "stair |1000;");
        slip(1, "stair |99999999999999999999;");
        slip(1, "stair 1 |0001;");
        slip(1, "stair|1000;");
        slip(1, "stair 1;|1000");
        slip(2, "stair 1;|100");
    }

    private static void stairLines() {
        about("stair { N } N ;: 1 to 8 LOADS");
        slip(2, "stair |;");
        slip(2, "stair|");
        whole("stair 1;");
        run("stair 1 2 3 4 5 6 7 8;", "count(0)=8 step(7,0)=8 step(8,0)!-2 count(8)=36");
        slip(2, "stair 1 2 3 4 5 6 7 8 |9;");
        slip(2, "stair 1 2 3 4 5 6 7 8 |9");
        slip(1, "stair 1 2 3 4 5 6 7 8 |9000;");
        slip(2, "stair 1 2 3 4 5 6 7 8|");
        about("LOADS from 0 to 999");
        run("stair 0 999 1 998;", "step(0,0)=0 step(1,0)=999 step(2,0)=1 step(3,0)=998 count(8)=1998");
        slip(1, "stair 0 |1000;");
        slip(2, "stair |- 1;");
        about("stair must be told first, and once");
        slip(2, "|");
        slip(2, "   |");
        slip(2, "|; stair 1;");
        slip(2, "|day 1; stair 1;");
        slip(2, "|person on 0 build 1;");
        slip(2, "stair 1;|stair 1;");
        slip(2, "stair 1;day 1;|stair 1;");
        about("{ LINE ; }: none, each with its end");
        whole("stair 1;");
        slip(2, "stair 1;|;");
        slip(2, "stair 1;day 1|");
        slip(2, "stair 1;day 1;|;");
        slip(2, "stair 1;day 1 |quota 1;");
        slip(2, "stair 1;|queue 1;");
        slip(2, "stair 1;day 1 \n |");
    }

    private static void jointLines() {
        about("joint: between STEP N and the next one");
        run("stair 0 0 0;joint 0 takes 3;joint 1 takes 4;", "step(0,4)=3 step(1,4)=4 step(2,4)=0");
        slip(3, "stair 0 0 0;joint |2 takes 1;");
        slip(3, "stair 0 0 0;joint |3 takes 1;");
        slip(3, "stair 0 0 0;joint |999 takes 1;");
        slip(3, "stair 0;joint |0 takes 1;");
        slip(1, "stair 0 0 0;joint |1000 takes 1;");
        run("stair 0 0 0 0 0 0 0 0;joint 6 takes 3;", "step(6,4)=3 step(7,4)=0");
        slip(3, "stair 0 0 0 0 0 0 0 0;joint |7 takes 1;");
        about("joint: takes 0 to 999 (0)");
        run("stair 0 0 0 0;joint 0 takes 0;joint 1 takes 999;", "step(0,4)=0 step(1,4)=999 step(2,4)=0 step(3,4)=0");
        slip(1, "stair 0 0;joint 0 takes |1000;");
        slip(2, "stair 0 0;joint 0 takes |;");
        slip(2, "stair 0 0;joint 0 |1;");
        slip(2, "stair 0 0;joint |takes 1;");
    }

    private static void personLines() {
        about("person: on a STEP");
        run("stair 0 0;person on 0 build 1;person on 1 build 1;", "person(0,0)=0 person(1,0)=1 count(1)=2");
        slip(3, "stair 0 0;person on |2 build 1;");
        slip(3, "stair 0;person on |1 build 1;");
        slip(3, "stair 0;person on |999 build 1;");
        slip(3, "stair 0 0 0 0 0 0 0 0;person on |8 build 1;");
        slip(2, "stair 0;person on |build 1;");
        about("person: build 0 to 99");
        run("stair 0;person on 0 build 0;person on 0 build 99;", "person(0,1)=0 person(1,1)=99 person(0,7)=0 person(1,7)=99");
        slip(3, "stair 0;person on 0 build |100;");
        slip(3, "stair 0;person on 0 build |999;");
        slip(2, "stair 0;person on 0 build |;");
        slip(2, "stair 0;person on 0|;");
        slip(2, "stair 0;person on 0 |age 5 build 1;");
        about("person: age 0 to 99 (0)");
        run("stair 0;person on 0 build 1;person on 0 build 1 age 0;person on 0 build 1 age 99;", "person(0,2)=0 person(1,2)=0 person(2,2)=99");
        slip(3, "stair 0;person on 0 build 1 age |100;");
        slip(2, "stair 0;person on 0 build 1 age |;");
        about("person: frail 0 to 10 (0)");
        run("stair 0;person on 0 build 1;person on 0 build 1 frail 0;person on 0 build 1 frail 10;", "person(0,3)=0 person(1,3)=0 person(2,3)=10");
        slip(3, "stair 0;person on 0 build 1 frail |11;");
        slip(2, "stair 0;person on 0 build 1 frail |by 5;");
        about("person: by 0 to 999 (none)");
        run("stair 0;person on 0 build 1;person on 0 build 1 by 0;person on 0 build 1 by 999;", "person(0,4)=-1 person(1,4)=0 person(2,4)=999");
        slip(1, "stair 0;person on 0 build 1 by |1000;");
        slip(2, "stair 0;person on 0 build 1 by |build;");
        slip(2, "stair 0;person on 0 build 1 |build 2;");
        slip(2, "stair 0;person on 0 build 1 |2;");
        about("person: 9 at most; 4: the first TOKEN of a 10th one");
        run(NINE, "count(1)=9 person(8,1)=1 person(9,1)!-2");
        slip(4, NINE + "|person on 0 build 1;");
        slip(4, NINE + "|person");
        slip(4, NINE + "day 1;|person on 5 build 100;");
        slip(2, NINE + "|on 0 build 1;");
        slip(2, NINE.substring(0, NINE.length() - 1) + "|person on 0 build 1;");
        slip(2, NINE + "day |person;");
    }

    private static void coupleLines() {
        String three = "stair 0;person on 0 build 1;person on 0 build 1;person on 0 build 1;";
        about("couple: two, told ahead");
        run(three + "couple 2 0;", "person(0,5)=2 person(1,5)=-1 person(2,5)=0");
        slip(3, three + "couple 0 |3;");
        slip(3, three + "couple |3 0;");
        slip(3, three + "couple |999 0;");
        slip(3, "stair 0;couple |0 1;person on 0 build 1;person on 0 build 1;");
        slip(3, "stair 0;person on 0 build 1;couple 0 |1;person on 0 build 1;");
        slip(1, three + "couple |1000 0;");
        slip(2, three + "couple 0|;");
        slip(2, three + "couple |;");
        slip(2, three + "couple 0 1 |2;");
        about("couple: not one and the same");
        slip(3, three + "couple 1 |1;");
        about("couple: neither of another couple");
        slip(3, three + "couple 0 1;couple 2 |1;");
        slip(3, three + "couple 0 1;couple |1 2;");
        slip(3, three + "couple 0 1;couple |0 1;");
        slip(3, three + "couple 0 1;couple |1 0;");
        run(NINE + "couple 8 0;couple 1 7;couple 2 6;couple 3 5;", "person(8,5)=0 person(0,5)=8 person(7,5)=1 person(3,5)=5 person(4,5)=-1 count(12)=14");
        slip(3, NINE + "couple 8 0;couple 1 7;couple 2 6;couple 3 5;couple 4 |4;");
        slip(3, NINE + "couple 0 |9;");
    }

    private static void quotaAndDayLines() {
        about("quota: 1 to 9 (1)");
        run("stair 0;", "count(5)=1");
        run("stair 0;quota 1;", "count(5)=1");
        run("stair 0;quota 9;", "count(5)=9");
        slip(3, "stair 0;quota |0;");
        slip(3, "stair 0;quota |10;");
        slip(3, "stair 0;quota |999;");
        slip(1, "stair 0;quota |1000;");
        slip(2, "stair 0;quota |;");
        about("day: 0 to 999 (0)");
        run("stair 0;", "count(7)=0");
        run("stair 0;day 0;", "count(7)=0");
        run("stair 0;day 999;", "count(7)=999 days(1)=1 count(7)=1000");
        slip(1, "stair 0;day |1000;");
        slip(2, "stair 0;day |by;");
    }

    private static void laterOnes() {
        about("later ones of a joint, of a flag, of quota, bears, may, day strike");
        run("stair 0 0 0;joint 0 takes 5;joint 1 takes 6;joint 0 takes 0;joint 1 takes 7;", "step(0,4)=0 step(1,4)=7 count(12)=5");
        run("stair 0;person on 0 build 1 age 9 frail 8 by 7 age 0 by 0 frail 0 age 3 by 4;", "person(0,2)=3 person(0,3)=0 person(0,4)=4");
        run("stair 0;quota 9;quota 1;", "count(5)=1");
        run("stair 0;day 999;day 0;", "count(7)=0");
        run("stair 0;person on 0 build 5;bears : 9;bears : build;", "person(0,7)=5");
        run("stair 0;person on 0 build 5;may : 1 = 2;may : 1 = 1;", "see(0)=0");
        run("stair 0;person on 0 build 5;may : 1 = 1;may : 1 = 2;", "see(0)!-14");
        slip(3, "stair 0;quota 9;quota |10;");
        slip(3, "stair 0;person on 0 build 1 age 9 age |100;");
        slip(2, "stair 0;bears : 1;bears : |wait;");
    }

    private static void laws() {
        about("bears : SUM");
        slip(2, "stair 0;bears |1;");
        slip(2, "stair 0;bears : |;");
        slip(2, "stair 0;bears : 1 |= 1;");
        slip(2, "stair 0;bears : 1 |1;");
        slip(2, "stair 0;bears : 1 + |+ 1;");
        slip(2, "stair 0;bears : |- 1;");
        slip(2, "stair 0;bears : 1 * |;");
        slip(2, "stair 0;bears : ( |);");
        slip(2, "stair 0;bears : (1|;");
        slip(2, "stair 0;bears : 1|);");
        slip(2, "stair 0;bears : |[1];");
        slip(2, "stair 0;bears : |not 1;");
        slip(2, "stair 0;bears : |frail;");
        slip(2, "stair 0;bears : |by;");
        slip(1, "stair 0;bears : |1000;");
        slip(1, "stair 0;bears : 1 |/ 1;");
        whole("stair 0;bears : who+build*age-step+day*wed;");
        whole("stair 0;bears : 0;");
        whole("stair 0;bears : 999;");
        about("wait: in may alone");
        slip(2, "stair 0;bears : |wait;");
        slip(2, "stair 0;bears : 1 + (2 * |wait);");
        whole("stair 0;may : wait = wait;");
        whole("stair 0;may : 1 < 2 + (3 * wait);");
        slip(2, "stair 0;may : wait = 1;bears : |wait;");
        about("may : TRUTH");
        slip(2, "stair 0;may |1 = 1;");
        slip(2, "stair 0;may : |;");
        slip(2, "stair 0;may : 1|;");
        slip(2, "stair 0;may : 1 =|;");
        slip(2, "stair 0;may : 1 = 1 |= 1;");
        slip(2, "stair 0;may : 1 = |= 1;");
        slip(2, "stair 0;may : 1 < |= 1;");
        slip(2, "stair 0;may : [1 = 1|;");
        slip(2, "stair 0;may : 1 = 1|];");
        slip(2, "stair 0;may : [1 |] = 1;");
        slip(2, "stair 0;may : (1 |= 1);");
        slip(2, "stair 0;may : 1 = 1 and |;");
        slip(2, "stair 0;may : 1 = 1 or |or 1 = 1;");
        slip(2, "stair 0;may : |and 1 = 1;");
        slip(2, "stair 0;may : 1 = 1 |not 1 = 1;");
        slip(2, "stair 0;may : 1 = |not 1 = 1;");
        slip(2, "stair 0;may : not|;");
        slip(2, "stair 0;may : [|];");
    }

    private static void nesting() {
        about("at most six of not [ ( within one another; 4: a seventh");
        for (int n = 1; n <= 6; n++) {
            whole("stair 0;bears : " + "(".repeat(n) + "1" + ")".repeat(n) + ";");
            whole("stair 0;may : " + "not ".repeat(n) + "1 = 1;");
            whole("stair 0;may : " + "[".repeat(n) + "1 = 1" + "]".repeat(n) + ";");
            whole("stair 0;may : " + "not ".repeat(6 - n) + "(".repeat(n) + "1" + ")".repeat(n) + " = 1;");
            whole("stair 0;may : " + "[".repeat(6 - n) + "(".repeat(n) + "1" + ")".repeat(n) + " = 1" + "]".repeat(6 - n) + ";");
            slip(4, "stair 0;may : " + "not ".repeat(6 - n) + "(".repeat(n) + "|(1" + ")".repeat(n + 1) + " = 1;");
            slip(4, "stair 0;may : " + "[".repeat(6 - n) + "1 = " + "(".repeat(n) + "|(1" + ")".repeat(n + 1) + "]".repeat(6 - n) + ";");
            slip(4, "stair 0;may : " + "[".repeat(n) + "not ".repeat(6 - n) + "|[1 = 1]" + "]".repeat(n) + ";");
            slip(4, "stair 0;may : " + "not ".repeat(n) + "[".repeat(6 - n) + "|not 1 = 1" + "]".repeat(6 - n) + ";");
        }
        slip(4, "stair 0;bears : ((((((|(1)))))));");
        slip(4, "stair 0;bears : 1 + ((((((1 * |(");
        slip(4, "stair 0;may : not not not not not not |not 1 = 1;");
        slip(4, "stair 0;may : [[[[[[|[1 = 1]]]]]]];");
        slip(4, "stair 0;may : [[[[[[1 = 1 or |[1 = 1]]]]]]];");
        slip(4, "stair 0;may : [[[[[[1 = 1 and |[1 = 1]]]]]]];");
        slip(4, "stair 0;may : [[[[[[1 = 1 or 1 = 1 and |not 1 = 1]]]]]];");
        slip(4, "stair 0;may : [[[[[[1 = 1 or |not 1 = 1]]]]]];");
        slip(4, "stair 0;may : [[[[[[1 = 1 and 1 < 2 + 3 * |(1)]]]]]];");
        slip(4, "stair 0;may : not [1 = 1 or not [1 = 1 and not [1 = 1 or |not 1 = 1]]];");
        slip(4, "stair 0;bears : 1 + (1 - (1 * (1 + (1 - (1 * (1 + |(1)))))));");
        about("not [ ( behind one another aren't within one another");
        whole("stair 0;bears : ((((((1)))))) + ((((((2)))))) * ((((((3))))));");
        whole("stair 0;may : not not not not not not 1 = 1 and not not not not not not 1 = 1 or not not not not not not 1 = 1;");
        whole("stair 0;may : [[[[[[1 = 1]]]]]] or [[[[[[1 = 1]]]]]];");
        whole("stair 0;may : [not not not not [1 = 1] and not not not not [1 = 1]];");
        about("what can't stand there at all is 2, not 4");
        slip(2, "stair 0;bears : ((((((1 |( 1))))));");
        slip(2, "stair 0;bears : ((((((|[1 = 1]))))));");
        slip(2, "stair 0;bears : ((((((|not 1))))));");
        slip(2, "stair 0;may : [[[[[[1 = 1 |[");
        slip(2, "stair 0;may : [[[[[[1 |(");
        slip(2, "stair 0;may : not not not not not not 1 = |not");
        slip(1, "stair 0;bears : ((((((|{");
    }

    private static void firstFault() {
        about("FAULTS: the first along the text");
        slip(2, "stair |; ? 1;");
        slip(3, "stair 0;quota |0;quota ?;");
        slip(1, "stair 0;quota |?;quota 0;");
        slip(2, "stair |;quota 0;1000");
        slip(4, NINE + "|person ?");
        slip(1, NINE + "|?person");
        slip(3, NINE + "quota |0;person");
        slip(2, "stair 1;|x1000");
        about("of one TOKEN the least kind");
        slip(1, "stair 1;|5555");
        slip(1, "stair 0;quota |5555;");
        slip(1, "stair 0 0;joint |5555 takes 1;");
        slip(2, "stair 0;quota 5 |0;");
        slip(2, "stair 0;|999;");
        slip(2, "stair 0;person on 0 build 1;couple 0|");
        about("2: the end is at the text's length");
        slip(2, "stair 1;bears : 1 + |");
        slip(2, "stair 1;bears : 1 +  \n|");
        slip(2, "stair 1;person|");
        slip(2, "stair 1;person on 0 build 5 age |");
    }
}
