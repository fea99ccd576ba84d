/** Term III: each sentence that names a boundary case has a test of its own, which quotes it. */
public final class WaysEdgesTest {
    private static final int NONE = HymnLamps.NONE;
    private static final Check CHECK = new Check();
    private static final String HEAD = "ground 3 3;";

    public static void main(String[] args) {
        numbersAgree();
        unreachable();
        aroundWalls();
        leastOfLikeOnes();
        eachByHisLamp();
        nobodyHasToGo();
        twoInOneCell();
        eightGo();
        fewerGoThen();
        soonIsTheLeastMost();
        soonNone();
        wayOfTheFirstStep();
        wayThatEnds();
        missedBeats();
        missedAStepMade();
        missedOthersAsTold();
        missedJustThePicture();
        missedByPersonsThenBeats();
        rhyme();
        alike();
        lastTwentyActs();
        CHECK.done();
    }

    private static void due(String call, long got, long want) {
        CHECK.due(call, got, want);
    }

    private static void none(HymnLamps x, int beat, int word) {
        due("least(" + beat + ", " + word + ", NONE)", x.least(beat, word, NONE), NONE);
        due("least(" + beat + ", " + word + ", 0)", x.least(beat, word, 0), NONE);
        due("soon(" + beat + ", " + word + ")", x.soon(beat, word), NONE);
        due("way(" + beat + ", " + word + ", 0, 0)", x.way(beat, word, 0, 0), NONE);
    }

    private static void goes(HymnLamps x, int beat, int word, int... cells) {
        for (int k = 0; k < cells.length; k++) {
            due("least(" + beat + ", " + word + ", " + k + ")", x.least(beat, word, k), cells[k]);
        }
        due("no more", x.least(beat, word, cells.length), NONE);
    }

    private static void way(HymnLamps x, int beat, int word, int person, int... steps) {
        for (int k = 0; k < steps.length; k++) {
            due("way(" + beat + ", " + word + ", " + person + ", " + k + ")", x.way(beat, word, person, k), steps[k]);
        }
        due("no more steps", x.way(beat, word, person, steps.length), NONE);
        due("none far behind", x.way(beat, word, person, 1000), NONE);
    }

    /** III: "None such, if numbers do not agree": too few, too many, of one lamp alone, nobody at all. */
    private static void numbersAgree() {
        HymnLamps x = Check.on(HEAD + "person a at 0 0 lamp 1 walks e;person b at 1 0 lamp 1 walks e;person c at 2 0 lamp 2 walks e;"
                + "word u at 0 1 lamp 1 at 1 1 lamp 1;word v at 0 1 lamp 1 at 1 1 lamp 1 at 2 1 lamp 1;"
                + "word w at 0 1 lamp 2 at 1 1 lamp 1 at 2 1 lamp 2;word y at 0 1 lamp 1 at 1 1 lamp 1 at 2 1 lamp 2 at 2 2 lamp 1;"
                + "word z at 0 1 lamp 2 at 1 1 lamp 1 at 2 1 lamp 1;");
        none(x, 0, 0);
        none(x, 0, 1);
        none(x, 0, 2);
        none(x, 0, 3);
        goes(x, 0, 4, 4, 5, 3);
        none(Check.on(HEAD + "word u at 0 1 lamp 1;"), 0, 0);
        none(Check.on(HEAD + "person a at 0 0 lamp 0 walks e;word u at 0 1 lamp 1;"), 0, 0);
        none(Check.on(HEAD + "person a at 0 0 lamp 2 walks e;word u at 0 1 lamp 1;"), 0, 0);
    }

    /** III: "or a cell can't be reached": behind walls, in a wall. */
    private static void unreachable() {
        String split = "wall 1 0;wall 1 1;wall 1 2;";
        HymnLamps x = Check.on(HEAD + split + "person a at 0 0 lamp 1 walks x;person b at 0 1 lamp 1 walks x;"
                + "word u at 0 0 lamp 1 at 2 0 lamp 1;word v at 0 2 lamp 1 at 1 1 lamp 1;word w at 0 2 lamp 1 at 0 1 lamp 1;");
        none(x, 0, 0);
        none(x, 0, 1);
        due("on one side", x.least(0, 2, NONE), 2);
        x = Check.on(HEAD + split + "person a at 0 0 lamp 1 walks x;person b at 2 0 lamp 1 walks x;word u at 0 2 lamp 1 at 2 2 lamp 1;"
                + "word v at 2 1 lamp 1 at 2 2 lamp 1;");
        goes(x, 0, 0, 6, 8);
        none(x, 0, 1);
        x = Check.on(HEAD + split + "person a at 0 0 lamp 1 walks x;person b at 2 0 lamp 2 walks x;word u at 0 2 lamp 2 at 2 2 lamp 1;");
        none(x, 0, 0);
    }

    /** III: "each by as few steps as there are by cells without walls (others in the way count for nothing)". */
    private static void aroundWalls() {
        HymnLamps x = Check.on("ground 9 6;wall 1 0;wall 1 1;wall 1 2;wall 1 3;wall 1 4;wall 3 5;wall 3 4;wall 3 3;wall 3 2;wall 3 1;"
                + "person a at 0 0 lamp 1 walks x;word u at 4 5 lamp 1;");
        due("down, up, down", x.least(0, 0, NONE), 19);
        due("soon", x.soon(0, 0), 19);
        x = Check.on(HEAD + "person a at 0 0 lamp 1 walks x;person b at 1 0 lamp 0 walks x;word u at 2 0 lamp 1;");
        due("others do not count", x.least(0, 0, NONE), 2);
    }

    /** III: "of like ones the first by PERSONS with a lamp, the lesser cell". */
    private static void leastOfLikeOnes() {
        HymnLamps x = Check.on("ground 5 3;person a at 1 0 lamp 1 walks x;person o at 4 2 lamp 0 walks x;person b at 0 0 lamp 1 walks x;"
                + "person c at 2 0 lamp 1 walks x;word u at 4 0 lamp 1 at 3 0 lamp 1 at 2 2 lamp 1;");
        // c goes 2 to 12; a and b go 6 together, whoever of them goes to 3
        due("together", x.least(0, 0, NONE), 8);
        goes(x, 0, 0, 3, 4, 12);
        x = Check.on(HEAD + "person a at 1 1 lamp 1 walks x;person b at 1 0 lamp 1 walks x;word u at 0 0 lamp 1 at 2 2 lamp 1;");
        goes(x, 0, 0, 8, 0);
        x = Check.on(HEAD + "person a at 0 0 lamp 1 walks x;person b at 2 0 lamp 1 walks x;word u at 0 1 lamp 1 at 1 1 lamp 1;");
        goes(x, 0, 0, 3, 4);
        x = Check.on(HEAD + "person a at 2 0 lamp 1 walks x;person b at 0 0 lamp 1 walks x;word u at 2 1 lamp 1 at 1 1 lamp 1;");
        goes(x, 0, 0, 5, 4);
    }

    /** III: "each cell one by one of its lamp". */
    private static void eachByHisLamp() {
        HymnLamps x = Check.on(HEAD + "person a at 0 0 lamp 1 walks x;person b at 2 2 lamp 2 walks x;word u at 0 0 lamp 2 at 2 2 lamp 1;");
        due("far, as lamps want it", x.least(0, 0, NONE), 8);
        goes(x, 0, 0, 8, 0);
    }

    /** III: LEAST 0, SOON 0: all are there. */
    private static void nobodyHasToGo() {
        HymnLamps x = Check.on(HEAD + "person a at 0 0 lamp 1 walks x;person b at 2 2 lamp 1 walks x;word u at 2 2 lamp 1 at 0 0 lamp 1;");
        due("least", x.least(0, 0, NONE), 0);
        due("soon", x.soon(0, 0), 0);
        goes(x, 0, 0, 0, 8);
        way(x, 0, 0, 0);
    }

    /** III: "(others in the way count for nothing)": two go from one cell; the first one to the lesser cell. */
    private static void twoInOneCell() {
        HymnLamps x = Check.on(HEAD + "person a at 0 0 lamp 1 walks e;person b at 2 0 lamp 1 walks w;word u at 1 0 lamp 1 at 1 2 lamp 1;"
                + "word v at 0 0 lamp 1 at 2 0 lamp 1;");
        goes(x, 1, 0, 1, 7);
        goes(x, 1, 1, 0, 2);
        due("together", x.least(1, 0, NONE), 2);
        due("soon", x.soon(1, 0), 2);
        way(x, 1, 0, 0);
        way(x, 1, 0, 1, 2, 2);
    }

    /** III: as many as a WORD can have cells, and ten with a lamp, who are too many. */
    private static void eightGo() {
        StringBuilder s = new StringBuilder("ground 9 3;");
        for (int k = 0; k < 8; k++) {
            s.append("person p").append((char) ('a' + k)).append(" at ").append(k).append(" 0 lamp ").append(1 + k % 2).append(" walks x;");
        }
        s.append("person y at 8 1 lamp 0 walks x;person z at 8 0 lamp 0 walks x;word u");
        for (int k = 0; k < 8; k++) {
            s.append(" at ").append(8 - k).append(" 2 lamp ").append(1 + k % 2);
        }
        HymnLamps x = Check.on(s + ";");
        // those with lamp 1 at 0, 2, 4, 6 go to 2, 4, 6, 8, those with lamp 2 at 1, 3, 5, 7 just down
        due("together", x.least(0, 0, NONE), 24);
        goes(x, 0, 0, 20, 19, 22, 21, 24, 23, 26, 25);
        due("soon", x.soon(0, 0), 4);
        x.lamp(8, 1);
        none(x, 0, 0);
        x.lamp(9, 2);
        none(x, 0, 0);
    }

    /** III: two go, then one, then two on one object. */
    private static void fewerGoThen() {
        HymnLamps x = Check.on("ground 9 3;person a at 0 0 lamp 1 walks x;person b at 8 0 lamp 1 walks x;person c at 4 0 lamp 1 walks x;"
                + "word u at 0 2 lamp 1 at 8 2 lamp 1 at 4 2 lamp 1;word v at 0 2 lamp 1 at 8 2 lamp 1;word w at 1 1 lamp 1;");
        due("three", x.least(0, 0, NONE), 6);
        x.lamp(2, 0);
        due("two", x.least(0, 1, NONE), 4);
        due("soon, two", x.soon(0, 1), 2);
        x.lamp(1, 0);
        due("one", x.least(0, 2, NONE), 2);
        due("soon, one", x.soon(0, 2), 2);
        x.undo();
        due("two again", x.least(0, 1, NONE), 4);
    }

    /** III: "SOON: the least BEATS in which all can be there: the most steps of one", which need not be those of a LEAST. */
    private static void soonIsTheLeastMost() {
        HymnLamps x = Check.on("ground 4 3;person a at 0 0 lamp 1 walks x;person b at 1 2 lamp 1 walks x;word u at 0 0 lamp 1 at 3 0 lamp 1;");
        due("least", x.least(0, 0, NONE), 4);
        goes(x, 0, 0, 0, 3);
        due("a to 3 and b to 0 are there sooner", x.soon(0, 0), 3);
        way(x, 0, 0, 1, 0, 0, 1, 1);
    }

    /** III: "None such" holds for SOON, too. */
    private static void soonNone() {
        HymnLamps x = Check.on(HEAD + "wall 0 1;wall 1 0;person a at 0 0 lamp 1 walks x;word u at 0 0 lamp 1;word v at 2 2 lamp 1;");
        due("he is there", x.soon(0, 0), 0);
        none(x, 0, 1);
        none(x, 99, 1);
    }

    /** III: "each goes by n, e, s, w, the first of these, each time, that brings him nearer". */
    private static void wayOfTheFirstStep() {
        way(Check.on(HEAD + "person a at 0 2 lamp 1 walks x;word u at 2 0 lamp 1;"), 0, 0, 0, 0, 0, 1, 1);
        way(Check.on(HEAD + "person a at 2 2 lamp 1 walks x;word u at 0 0 lamp 1;"), 0, 0, 0, 0, 0, 3, 3);
        way(Check.on(HEAD + "person a at 0 0 lamp 1 walks x;word u at 2 2 lamp 1;"), 0, 0, 0, 1, 1, 2, 2);
        way(Check.on(HEAD + "person a at 2 0 lamp 1 walks x;word u at 0 2 lamp 1;"), 0, 0, 0, 2, 2, 3, 3);
        way(Check.on(HEAD + "wall 0 1;person a at 0 2 lamp 1 walks x;word u at 2 0 lamp 1;"), 0, 0, 0, 1, 0, 0, 1);
        way(Check.on(HEAD + "wall 1 0;person a at 0 0 lamp 1 walks x;word u at 2 0 lamp 1;"), 0, 0, 0, 2, 1, 1, 0);
        way(Check.on(HEAD + "wall 1 1;person a at 2 1 lamp 1 walks x;word u at 0 1 lamp 1;"), 0, 0, 0, 0, 3, 3, 2);
    }

    /** III: WAYS have as many steps as the LEAST has for him: one, none, the longest one. */
    private static void wayThatEnds() {
        way(Check.on(HEAD + "person a at 1 1 lamp 1 walks x;word u at 1 1 lamp 1;"), 0, 0, 0);
        way(Check.on(HEAD + "person a at 1 1 lamp 1 walks x;word u at 0 1 lamp 1;"), 0, 0, 0, 3);
        HymnLamps x = Check.on("ground 9 6;" + comb() + "person a at 0 0 lamp 1 walks x;word u at 8 5 lamp 1;");
        due("by the comb", x.least(0, 0, NONE), 33);
        int[] steps = new int[33];
        int at = 0;
        for (int row = 0; row < 4; row++) {
            for (int k = 0; k < 5; k++) {
                steps[at++] = row % 2 == 0 ? 2 : 0;
            }
            for (int k = 0; k < 2; k++) {
                steps[at++] = 1;
            }
        }
        for (int k = 0; k < 5; k++) {
            steps[at++] = 2;
        }
        way(x, 0, 0, 0, steps);
    }

    /** Walls in every other across, a gap at the end, at the start, and so on. */
    private static String comb() {
        StringBuilder s = new StringBuilder();
        for (int across = 1; across < 9; across += 2) {
            for (int down = 0; down < 5; down++) {
                s.append("wall ").append(across).append(' ').append(down + (across % 4 == 1 ? 0 : 1)).append(';');
            }
        }
        return s.toString();
    }

    private static HymnLamps painted(String text, int... lights) {
        HymnLamps x = Check.on(text);
        Check.tape(x, lights);
        CHECK.due("paint()", x.paint(), true);
        return x;
    }

    /** All of MISSED in a BEAT, in their order. */
    private static void missed(HymnLamps x, int beat, int... all) {
        due("missed(" + beat + ", NONE)", x.missed(beat, NONE), all.length);
        for (int k = 0; k < all.length; k++) {
            due("missed(" + beat + ", " + k + ")", x.missed(beat, k), all[k]);
        }
        due("missed(" + beat + ", " + all.length + ")", x.missed(beat, all.length), NONE);
    }

    /** III: "one PERSON made no step in one BEAT (1 up to that one)": the first, the last, none behind it, none in BEAT 0. */
    private static void missedBeats() {
        HymnLamps x = painted("ground 9 3;person a at 0 0 lamp 1 walks e;", many(27, 2));
        missed(x, 0);
        missed(x, 1);
        missed(x, 2);
        missed(x, 3, 1, 2, 3);
        missed(x, 4);
        x = painted("ground 9 3;person a at 0 0 lamp 1 walks e;", many(27, 0));
        missed(x, 0);
        missed(x, 1, 1);
        missed(x, 99);
        x = painted("ground 9 3;person a at 0 1 lamp 1 walks nsnsnsnsnse;", many(27, 16));
        missed(x, 88, 11, 22, 33, 44, 55, 66, 77, 88);
    }

    private static int[] many(int count, int lit) {
        int[] lights = new int[count];
        lights[lit] = 1;
        return lights;
    }

    /** III: "he having made a step in that BEAT else": x, and steps off the ground or into a wall, are none. */
    private static void missedAStepMade() {
        missed(painted(HEAD + "person a at 0 0 lamp 1 walks x;", many(9, 0)), 5);
        missed(painted(HEAD + "person a at 0 0 lamp 1 walks nw;", many(9, 0)), 5);
        missed(painted(HEAD + "wall 1 0;person a at 0 0 lamp 1 walks e;", many(9, 0)), 5);
        // BEATS 1 and 2 are steps, 3 is none: as it goes on, either missed is made good by the third
        missed(painted(HEAD + "person a at 0 0 lamp 1 walks e;", many(9, 2)), 3, 1, 2);
        missed(painted(HEAD + "person a at 0 0 lamp 1 walks e;", many(9, 2)), 2);
    }

    /** III: "all his others as told": each by its letter from where he is then, walls and sides as they are. */
    private static void missedOthersAsTold() {
        // told 1 4 3 0; without e 0 3 3 0, the w being none then; without s 1 1 0 0, the n being none then
        HymnLamps x = painted(HEAD + "person a at 0 0 lamp 1 walks eswn;", many(9, 0));
        missed(x, 4, 1, 2);
        x = painted("ground 4 3;wall 1 1;person a at 0 0 lamp 1 walks es;", many(12, 4));
        missed(x, 2, 1);
    }

    /** III: "by which just THE PICTURE is LIT then": no more, no less, of just these lamps. */
    private static void missedJustThePicture() {
        String two = HEAD + "person a at 0 0 lamp 1 walks ex;person b at 2 2 lamp 2 walks x;";
        missed(painted(two, 1, 0, 0, 0, 0, 0, 0, 0, 2), 1, 1);
        missed(painted(two, 1, 0, 0, 0, 0, 0, 0, 0, 0), 1);
        missed(painted(two, 1, 0, 0, 0, 0, 0, 0, 0, 1), 1);
        missed(painted(two, 2, 0, 0, 0, 0, 0, 0, 0, 2), 1);
        missed(painted(two, 1, 1, 0, 0, 0, 0, 0, 0, 2), 1);
        missed(painted(two, 0, 1, 0, 0, 0, 0, 0, 0, 2), 1);
        missed(painted(two, 0, 0, 0, 0, 0, 0, 0, 0, 0), 1);
        missed(painted(HEAD, 0, 0, 0, 0, 0, 0, 0, 0, 0), 1);
    }

    /** III: "all PERSONS and BEATS": one without a lamp, too, and who is not seen below a greater lamp. */
    private static void missedByPersonsThenBeats() {
        HymnLamps x = painted(HEAD + "person a at 0 0 lamp 0 walks ew;person b at 2 2 lamp 1 walks x;person c at 0 2 lamp 0 walks ne;",
                0, 0, 0, 0, 0, 0, 0, 0, 1);
        missed(x, 3, 1, 2, 3, 201, 202, 203);
        x = painted(HEAD + "person a at 1 2 lamp 1 walks ex;person b at 2 2 lamp 2 walks x;", 0, 0, 0, 0, 0, 0, 0, 1, 2);
        missed(x, 1, 1);
        x = painted(HEAD + "person a at 2 1 lamp 1 walks s;person b at 2 0 lamp 2 walks ss;", 0, 0, 0, 0, 0, 2, 0, 0, 1);
        missed(x, 1);
        missed(x, 2, 101, 102);
    }

    /** III: "RHYME of STEPS: the fewest letters that, over and over, make them all": 1 up to all of them. */
    private static void rhyme() {
        String[] steps = {"n", "nn", "ne", "nen", "nene", "nnen", "nesnes", "nesnen", "xxxxxxxxxxxx", "xxxxxxxxxxx", "xxxxxxxxxxxn",
            "nxnxnxnxnxnx", "nexnexnexnex", "neswneswnesw", "neswxxneswxx", "neswnneswn", "nxnxnxnxnxn"};
        int[] want = {1, 1, 2, 3, 2, 4, 3, 6, 1, 1, 12, 2, 3, 4, 6, 5, 11};
        for (int k = 0; k < steps.length; k++) {
            due("RHYME of " + steps[k], Check.on(HEAD + "person a at 0 0 lamp 1 walks " + steps[k] + ";").person(0, 3), want[k]);
        }
    }

    /** III: "ALIKE are PERSONS with the same RHYME letter by letter". */
    private static void alike() {
        HymnLamps x = Check.on(HEAD + "person a at 0 0 lamp 1 walks ne;person b at 1 0 lamp 0 walks nenene;person c at 2 0 lamp 1 walks en;"
                + "person d at 0 1 lamp 1 walks nen;person e at 1 1 lamp 2 walks nenenenenene;");
        int[] want = {3, 3, 1, 1, 3};
        for (int k = 0; k < want.length; k++) {
            due("alike(" + k + ")", x.alike(k), want[k]);
        }
        due("sorts", x.alike(NONE), 3);
        String[] rhymes = {"n", "e", "x", "en", "ne", "ex", "xe", "xx", "ee", "nx", "xn", "xex", "nee", "eex", "nxxe", "xnex", "exsw", "wsxe",
            "nesx", "xsen", "exwsen", "xwnexx", "eeeeex", "xeeeee"};
        for (int k = 0; k < rhymes.length; k++) {
            for (int n = 0; n < rhymes.length; n++) {
                String one = rhymes[k].repeat(12 / rhymes[k].length());
                HymnLamps two = Check.on(HEAD + "person a at 0 0 lamp 1 walks " + one + ";person b at 1 0 lamp 1 walks " + rhymes[n] + ";");
                boolean like = one.equals(rhymes[n].repeat(12 / rhymes[n].length()));
                due(one + " and " + rhymes[n], two.alike(0), like ? 2 : 1);
            }
        }
        due("one alone", Check.on(HEAD + "person a at 0 0 lamp 1 walks ne;").alike(0), 1);
        due("one sort", Check.on(HEAD + "person a at 0 0 lamp 1 walks ne;").alike(NONE), 1);
    }

    /** III: "The last 20 can be undone": of 21 ACTS the first can't be. */
    private static void lastTwentyActs() {
        HymnLamps x = Check.on(HEAD + "person a at 0 0 lamp 1 walks x;person b at 2 2 lamp 0 walks x;");
        x.lamp(1, 2);
        for (int k = 1; k < 20; k++) {
            Check.tape(x, "nesw".substring(k % 4, k % 4 + 1));
            x.teach(0);
        }
        due("twenty", x.ground(8), 20);
        x.lamp(0, 2);
        due("still twenty", x.ground(8), 20);
        for (int k = 19; k >= 0; k--) {
            CHECK.due("undo()", x.undo(), true);
            due("left", x.ground(8), k);
            due("STEPS as ahead of it", x.person(0, 10), k > 0 ? k % 4 : 4);
            due("the lamp as ahead of all", x.person(0, 1), 1);
        }
        CHECK.due("the first of 21", x.undo(), false);
        due("it stays done", x.person(1, 1), 2);
        due("all others are undone", x.person(0, 10), 4);
        due("his lamp, too", x.person(0, 1), 1);
        x.lamp(0, 0);
        due("then acts count anew", x.ground(8), 1);
    }
}
