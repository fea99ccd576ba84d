/** Term II: each sentence that names a boundary case has a test of its own, which quotes it. */
public final class BeatsEdgesTest {
    private static final int NONE = HymnLamps.NONE;
    private static final Check CHECK = new Check();
    private static final String HEAD = "ground 3 3;";
    /** a stands still at no BEAT ahead of 99; in 99 he would go off the ground. */
    private static final String STILL_LATE = "ground 9 3;person a at 0 1 lamp 1 walks nsnsnsnsnse;";
    /** a goes east below a row of walls, and in BEAT 99 alone comes to b: only then b's cell is LIT with 1. */
    private static final String MEET_LATE = "ground 9 3;" + wallsAbove(8) + "person a at 0 1 lamp 1 walks xxnexxxxxxxx;"
            + "person b at 8 0 lamp 0 walks x;word w at 8 0 lamp 1;hymn w beat 99;hymn w beat 98;";

    public static void main(String[] args) {
        toldCellIsBeat0();
        lastBeat();
        stepsOverAndOver();
        offTheGround();
        intoAWall();
        nobodyIsInTheWay();
        stillFromBeat1();
        stillInBeat99();
        clashInOneCell();
        clashOfAnExchange();
        noClashInBeat0();
        lesserPersonFirst();
        greatestLamp();
        belowOddAndEven();
        farOfEachLamp();
        firstOfLikeWords();
        doubt();
        doubtOfOneWord();
        saidAtBothEnds();
        sung();
        lost();
        dangerBelowAll();
        dangerFirstOfLikeOnes();
        CHECK.done();
    }

    private static String wallsAbove(int count) {
        StringBuilder s = new StringBuilder();
        for (int k = 0; k < count; k++) {
            s.append("wall ").append(k).append(" 0;");
        }
        return s.toString();
    }

    private static void due(String call, long got, long want) {
        CHECK.due(call, got, want);
    }

    private static void path(String text, int... cells) {
        HymnLamps x = Check.on(text);
        for (int beat = 0; beat < cells.length; beat++) {
            due("where(0, " + beat + ") of " + text, x.where(0, beat), cells[beat]);
        }
    }

    /** II: "From the told cell on a PERSON makes a step each BEAT": none in BEAT 0. */
    private static void toldCellIsBeat0() {
        path(HEAD + "person a at 1 1 lamp 1 walks e;", 4, 5);
        path(HEAD + "person a at 1 1 lamp 1 walks n;", 4, 1);
        path(HEAD + "person a at 1 1 lamp 1 walks w;", 4, 3);
        path(HEAD + "person a at 1 1 lamp 1 walks s;", 4, 7);
        path(HEAD + "person a at 1 1 lamp 1 walks x;", 4, 4);
    }

    /** II: "BEATS 0 .. 99". */
    private static void lastBeat() {
        HymnLamps x = Check.on(MEET_LATE);
        due("where(0, 98)", x.where(0, 98), 17);
        due("where(0, 99)", x.where(0, 99), 8);
        due("where(0, 100)", x.where(0, 100), NONE);
        due("the CLASH in BEAT 99", x.clash(0), 99);
        due("one CLASH", x.clashes(), 1);
        due("said in BEAT 99 alone", x.said(NONE), 1);
        due("said(0)", x.said(0), 9900);
        due("read(99)", x.read(99, false), 0);
        due("the HYMN of BEAT 99", x.hymn(0, 2), 1);
        due("the HYMN of BEAT 98", x.hymn(1, 2), 0);
    }

    /** II: "letter by letter of STEPS, over and over": from the last letter back to the first. */
    private static void stepsOverAndOver() {
        path("ground 9 3;person a at 0 0 lamp 1 walks e;", 0, 1, 2, 3, 4, 5, 6, 7, 8, 8);
        path("ground 9 3;person a at 0 0 lamp 1 walks es;", 0, 1, 10, 11, 20, 21, 21, 22, 22);
        path("ground 9 3;person a at 0 0 lamp 1 walks exxxxxxxxxxs;", 0, 1, 1, 1, 1, 1, 1, 1, 1, 1, 1, 1, 10, 11, 11);
        HymnLamps x = Check.on("ground 9 3;person a at 0 0 lamp 1 walks exxxxxxxxxxs;");
        due("BEAT 24", x.where(0, 24), 20);
        due("BEAT 96", x.where(0, 96), 26);
        due("BEAT 85", x.where(0, 85), 26);
        due("BEAT 84", x.where(0, 84), 25);
    }

    /** II: "a step off the ground .. is none": on all sides, and never to the next row. */
    private static void offTheGround() {
        path("ground 4 3;person a at 2 0 lamp 1 walks n;", 2, 2, 2);
        path("ground 4 3;person a at 3 0 lamp 1 walks e;", 3, 3, 3);
        path("ground 4 3;person a at 3 1 lamp 1 walks e;", 7, 7, 7);
        path("ground 4 3;person a at 3 2 lamp 1 walks e;", 11, 11);
        path("ground 4 3;person a at 1 2 lamp 1 walks s;", 9, 9, 9);
        path("ground 4 3;person a at 0 1 lamp 1 walks w;", 4, 4, 4);
        path("ground 4 3;person a at 0 0 lamp 1 walks w;", 0, 0);
        path("ground 9 6;person a at 8 5 lamp 1 walks se;", 53, 53, 53);
        path("ground 9 6;person a at 0 0 lamp 1 walks nw;", 0, 0, 0);
    }

    /** II: "a step .. into a wall is none": from each side of it. */
    private static void intoAWall() {
        path(HEAD + "wall 1 1;person a at 1 2 lamp 1 walks n;", 7, 7);
        path(HEAD + "wall 1 1;person a at 0 1 lamp 1 walks e;", 3, 3);
        path(HEAD + "wall 1 1;person a at 1 0 lamp 1 walks s;", 1, 1);
        path(HEAD + "wall 1 1;person a at 2 1 lamp 1 walks w;", 5, 5);
        path("ground 9 6;wall 8 5;person a at 8 4 lamp 1 walks sw;", 44, 44, 43);
        path(HEAD + "wall 0 0;person a at 1 0 lamp 1 walks ws;", 1, 1, 4);
        // a step that was none is spent, not made later
        path(HEAD + "wall 1 1;person a at 0 1 lamp 1 walks ens;", 3, 3, 0, 3, 3);
    }

    /** II: "(Who is in the way counts for nothing.)" */
    private static void nobodyIsInTheWay() {
        path(HEAD + "person a at 0 0 lamp 1 walks e;person b at 1 0 lamp 1 walks x;", 0, 1, 2);
    }

    /** II: "He STANDS STILL in a BEAT (1 and on) in which he is where he was". */
    private static void stillFromBeat1() {
        due("x", Check.on(HEAD + "person a at 0 0 lamp 1 walks x;").still(0), 1);
        due("off the ground", Check.on(HEAD + "person a at 0 0 lamp 1 walks n;").still(0), 1);
        due("a wall", Check.on(HEAD + "wall 1 1;person a at 0 0 lamp 1 walks es;").still(0), 2);
        due("there and back is no standing still", Check.on(HEAD + "person a at 0 0 lamp 1 walks ew;").still(0), NONE);
    }

    /** II: "STANDS STILL in a BEAT": the last one. */
    private static void stillInBeat99() {
        due("the first in BEAT 99", Check.on(STILL_LATE).still(0), 99);
        due("one cell on", Check.on(STILL_LATE.replace("at 0 1", "at 1 1")).still(0), 88);
        due("two rows", Check.on("ground 9 3;person a at 0 1 lamp 1 walks nsnsnsnsnsew;").still(0), NONE);
    }

    /** II: "A CLASH in a BEAT: two PERSONS in one cell": lamps count for nothing, all others may be there, too. */
    private static void clashInOneCell() {
        HymnLamps x = Check.on(HEAD + "person a at 0 0 lamp 0 walks ex;person b at 2 0 lamp 0 walks wx;person c at 1 1 lamp 2 walks nx;");
        due("three in one cell", x.clash(0), 1);
        due("the first", x.clash(1), 0);
        due("the next", x.clash(2), 1);
        // in BEATS 1 and 2 they stand in the middle; in 3 and on at the sides
        due("BEATS", x.clashes(), 2);
    }

    /** II: "(from BEAT 1 on) each where the other one was in the BEAT before, in unlike cells". */
    private static void clashOfAnExchange() {
        HymnLamps x = Check.on(HEAD + "person a at 0 0 lamp 1 walks ex;person b at 1 0 lamp 1 walks wx;");
        due("in BEAT 1", x.clash(0), 1);
        due("alone", x.clashes(), 1);
        x = Check.on(HEAD + "person a at 0 0 lamp 1 walks ew;person b at 1 0 lamp 1 walks we;");
        due("in each BEAT but 0", x.clashes(), 99);
        x = Check.on(HEAD + "person a at 1 1 lamp 1 walks s;person b at 1 0 lamp 1 walks sxx;person c at 0 0 lamp 1 walks x;");
        due("where the other one was, but not each", x.clash(0), 4);
        x = Check.on(HEAD + "person a at 0 0 lamp 1 walks esx;person b at 1 0 lamp 1 walks snx;");
        due("one goes where the other one was, who goes elsewhere", x.clash(0), 2);
    }

    /** II: in BEAT 0 there is no BEAT before, and told cells are unlike. */
    private static void noClashInBeat0() {
        HymnLamps x = Check.on(HEAD + "person a at 0 0 lamp 1 walks x;person b at 1 0 lamp 1 walks x;");
        due("nobody in BEAT 0", x.clash(0), NONE);
        due("clashes()", x.clashes(), 0);
        due("one PERSON alone", Check.on(HEAD + "person a at 0 0 lamp 1 walks x;").clashes(), 0);
    }

    /** II: "of a BEAT the first by the lesser PERSON, then the other one". */
    private static void lesserPersonFirst() {
        String late = "person d at 1 2 lamp 1 walks n;person e at 2 1 lamp 1 walks w;";
        HymnLamps x = Check.on(HEAD + "person a at 0 0 lamp 1 walks x;person b at 2 2 lamp 1 walks x;person c at 2 0 lamp 1 walks x;"
                + late + "person f at 1 0 lamp 1 walks w;");
        due("a and f ahead of d and e", x.clash(0), 1);
        due("a", x.clash(1), 0);
        due("f", x.clash(2), 5);
        x = Check.on(HEAD + "person a at 1 1 lamp 1 walks x;" + late + "person f at 1 0 lamp 1 walks s;");
        due("a, of three others", x.clash(1), 0);
        due("the least of the others", x.clash(2), 1);
        x = Check.on(HEAD + "person a at 0 0 lamp 1 walks x;person b at 1 1 lamp 1 walks xx;person c at 0 1 lamp 1 walks xn;"
                + "person d at 2 1 lamp 1 walks w;");
        due("an earlier BEAT goes ahead of lesser PERSONS", x.clash(0) * 100 + x.clash(1) * 10 + x.clash(2), 113);
    }

    /** II: "LIT is a cell by the greatest lamp of those who are there (0 none)". */
    private static void greatestLamp() {
        int[][] lamps = {{0, 0, 0}, {0, 1, 0}, {1, 0, 0}, {1, 2, 0}, {2, 1, 0}, {1, 1, 2}, {2, 2, 1}, {0, 0, 2}};
        int[] want = {0, 1, 1, 2, 2, 2, 2, 2};
        for (int k = 0; k < lamps.length; k++) {
            HymnLamps x = Check.on(HEAD + "person a at 0 0 lamp " + lamps[k][0] + " walks ex;person b at 2 0 lamp " + lamps[k][1]
                    + " walks wx;person c at 1 1 lamp " + lamps[k][2] + " walks nx;");
            due("lit(1, 1) " + k, x.lit(1, 1), want[k]);
            due("lit(1, 0) " + k, x.lit(1, 0), 0);
            due("how many " + k, x.nearest(1, 3), want[k] > 0 ? 1 : 0);
        }
    }

    /** II: "From BELOW the ground is seen upside down: first and last downs changed, and so on". */
    private static void belowOddAndEven() {
        for (int high = 3; high <= 6; high++) {
            for (int down = 0; down < high; down++) {
                int seen = high - 1 - down;
                HymnLamps x = Check.on("ground 4 " + high + ";person a at 3 " + down + " lamp 2 walks x;word u at 3 " + down
                        + " lamp 2;word v at 3 " + seen + " lamp 2;");
                due("read from the tower " + high + " " + down, x.read(0, false), 0);
                due("read from below " + high + " " + down, x.read(0, true), down == seen ? 0 : 1);
                due("far from below " + high + " " + down, x.far(0, 0, true), down == seen ? 0 : 2);
                due("far from below of the other", x.far(0, 1, true), 0);
            }
        }
        HymnLamps x = Check.on("ground 9 6;person a at 0 0 lamp 1 walks x;person b at 8 5 lamp 2 walks x;word w at 0 5 lamp 1 at 8 0 lamp 2;");
        due("acrosses stay", x.read(0, true), 0);
        due("not from the tower", x.read(0, false), NONE);
    }

    /** II: "FAR .. in how many cells what is LIT is not its lamp there (0 where it has none)". */
    private static void farOfEachLamp() {
        int[][] want = {{0, 1, 1}, {1, 0, 1}, {1, 1, 0}};
        for (int lamp = 0; lamp <= 2; lamp++) {
            for (int asked = 1; asked <= 2; asked++) {
                HymnLamps x = Check.on(HEAD + "person a at 2 2 lamp " + lamp + " walks x;word w at 2 2 lamp " + asked + ";");
                due("lamp " + lamp + " of " + asked, x.far(0, 0, false), want[lamp][asked]);
            }
        }
        HymnLamps x = Check.on(HEAD + "person a at 2 2 lamp 2 walks x;person b at 1 1 lamp 1 walks x;word w at 0 0 lamp 2;");
        due("two too many, one too few", x.far(0, 0, false), 3);
    }

    /** II: "READ is a WORD that is not FAR at all (the first of like ones)", "NEAREST .. the first of like ones". */
    private static void firstOfLikeWords() {
        String u = "word u at 1 1 lamp 1;";
        HymnLamps x = Check.on(HEAD + "person a at 0 0 lamp 1 walks x;" + u + "word v at 0 0 lamp 1;word w at 0 0 lamp 1;");
        due("read", x.read(0, false), 1);
        due("nearest", x.nearest(0, 0), 1);
        x = Check.on(HEAD + "person a at 2 2 lamp 1 walks x;" + u + "word v at 0 0 lamp 1;word w at 0 0 lamp 1;");
        due("none is read", x.read(0, false), NONE);
        due("nearest of like ones", x.nearest(0, 0), 0);
        due("nobody", Check.on(HEAD + u).read(0, false), NONE);
    }

    /** II: "DOUBT: how much farther the next one is (0 for like ones". */
    private static void doubt() {
        String a = HEAD + "person a at 0 0 lamp 1 walks x;";
        due("like ones", Check.on(a + "word u at 0 0 lamp 1;word v at 0 0 lamp 1;").nearest(0, 2), 0);
        due("as far as another one", Check.on(a + "word u at 1 0 lamp 1;word v at 1 1 lamp 2;").nearest(0, 2), 0);
        due("by lamps alone", Check.on(a + "word u at 0 0 lamp 2;word v at 0 0 lamp 1;").nearest(0, 2), 1);
        due("the next one stands ahead", Check.on(a + "word t at 1 0 lamp 1 at 2 0 lamp 1;word u at 1 0 lamp 1;word v at 0 0 lamp 1;")
                .nearest(0, 2), 2);
        due("of three like ones the last is not meant",
                Check.on(a + "word t at 0 0 lamp 1;word u at 0 0 lamp 1;word v at 2 2 lamp 1;").nearest(0, 2), 0);
    }

    /** II: "99 with one WORD alone". */
    private static void doubtOfOneWord() {
        due("not FAR", Check.on(HEAD + "person a at 0 0 lamp 1 walks x;word u at 0 0 lamp 1;").nearest(0, 2), 99);
        due("FAR", Check.on(HEAD + "person a at 1 0 lamp 1 walks x;word u at 0 0 lamp 1;").nearest(99, 2), 99);
        due("nobody", Check.on(HEAD + "word u at 0 0 lamp 1;").nearest(0, 2), 99);
    }

    /** II: "SAID: BEATS with a WORD READ from the tower": BEATS 0 and 99, too; not what is read from BELOW. */
    private static void saidAtBothEnds() {
        HymnLamps x = Check.on(HEAD + "person a at 0 0 lamp 1 walks x;word u at 0 0 lamp 1;");
        due("all", x.said(NONE), 100);
        due("the first", x.said(0), 0);
        due("the last", x.said(99), 9900);
        due("none behind it", x.said(100), NONE);
        x = Check.on(HEAD + "person a at 0 0 lamp 1 walks x;word u at 0 2 lamp 1;");
        due("read from below", x.read(0, true), 0);
        due("but not said", x.said(NONE), 0);
    }

    /** II: "A HYMN is SUNG, if its WORD is not FAR in its BEAT": a like WORD READ instead does not matter. */
    private static void sung() {
        HymnLamps x = Check.on(HEAD + "person a at 0 0 lamp 1 walks e;word u at 0 0 lamp 1;word v at 0 0 lamp 1;hymn v beat 0;hymn v beat 1;");
        due("u is read", x.read(0, false), 0);
        due("v is sung", x.hymn(0, 2), 1);
        due("a beat later not", x.hymn(1, 2), 0);
        due("one is sung", x.ground(7), 1);
    }

    /** II: "LOST by him are HYMNS that are SUNG, and would not be then". */
    private static void lost() {
        HymnLamps x = Check.on(HEAD + "person a at 0 0 lamp 1 walks ex;person b at 2 0 lamp 1 walks wx;person c at 2 2 lamp 0 walks x;"
                + "word u at 1 0 lamp 1;word v at 0 0 lamp 1 at 2 0 lamp 1;word w at 2 0 lamp 1;"
                + "hymn u beat 1;hymn u beat 2;hymn v beat 0;hymn w beat 0;hymn w beat 3;");
        due("sung", x.ground(7), 3);
        // where both are, the other one's lamp is as good; w in BEAT 0 would be sung without a, but is not now
        due("lost by a", x.person(0, 4), 1);
        due("lost by b", x.person(1, 4), 1);
        due("lost by one without a lamp", x.person(2, 4), 0);
        x = Check.on(HEAD + "person a at 0 0 lamp 1 walks ex;person b at 2 0 lamp 2 walks wx;word u at 1 0 lamp 2;hymn u beat 1;");
        due("lost by the greater lamp", x.person(1, 4), 1);
        due("not by the lesser one", x.person(0, 4), 0);
    }

    /** II: "by whose lamp 0 the DOUBT would be least or another WORD NEAREST (counts as below all, -1)". */
    private static void dangerBelowAll() {
        String people = HEAD + "person a at 0 0 lamp 1 walks x;person b at 1 0 lamp 1 walks x;person c at 2 0 lamp 1 walks x;";
        String all = "word u at 0 0 lamp 1 at 1 0 lamp 1 at 2 0 lamp 1;";
        String asFarWithoutA = "word t at 1 0 lamp 1 at 2 0 lamp 1 at 1 1 lamp 1;";
        String asFarWithoutB = "word v at 0 0 lamp 1 at 2 0 lamp 1 at 0 1 lamp 1;";
        due("DOUBT 0 without b", Check.on(people + all + asFarWithoutB).danger(0), 1);
        due("DOUBT 0 without a, the first of like ones", Check.on(people + all + asFarWithoutA + asFarWithoutB).danger(0), 0);
        HymnLamps x = Check.on(people + all + asFarWithoutA + "word v at 0 0 lamp 1 at 2 0 lamp 1;");
        due("another WORD is nearest without b, below DOUBT 0 without a", x.danger(0), 1);
        x = Check.on(people + asFarWithoutB + all + asFarWithoutA);
        due("a like one that stands ahead is nearest, too", x.danger(0), 1);
    }

    /** II: "the PERSON with a lamp there .. of like ones the first". */
    private static void dangerFirstOfLikeOnes() {
        String people = HEAD + "person a at 0 0 lamp 0 walks x;person b at 1 0 lamp 1 walks x;person c at 2 0 lamp 1 walks x;";
        due("the first with a lamp", Check.on(people + "word u at 2 2 lamp 1;").danger(0), 1);
        due("two by whom another WORD is nearest",
                Check.on(people + "word u at 2 0 lamp 1;word v at 1 0 lamp 1 at 2 0 lamp 1;word w at 1 0 lamp 1;").danger(0), 1);
        due("one alone with a lamp", Check.on(HEAD + "person a at 0 0 lamp 0 walks x;person b at 1 0 lamp 2 walks x;word u at 2 2 lamp 1;")
                .danger(99), 1);
    }
}
