/** Each promise of the document by hand: ordinary inputs, the edges that it names, wrong inputs. */
public final class PromisesTest {
    private static final int NONE = HymnLamps.NONE;
    private static final int MAX = Integer.MAX_VALUE;
    private static final int MIN = Integer.MIN_VALUE;
    private static final Check CHECK = new Check();
    /** Twelve cells, a wall in 5; in BEAT 1 the lamps spell dot. */
    private static final String PLAIN = "ground 4 3; wall 1 1; person ann at 0 0 lamp 1 walks es;"
            + " person bob at 3 0 lamp 2 walks w; person cid at 0 2 lamp 0 walks x;"
            + " word dot at 1 0 lamp 1 at 2 0 lamp 2; word bar at 0 1 lamp 1; hymn dot beat 1; hymn bar beat 5;";
    /** Nobody, no WORDS. */
    private static final String BARE = "ground 3 3;";
    private static final String HEAD = "ground 3 3; ";

    private static void due(String call, long got, long want) {
        CHECK.due(call, got, want);
    }

    private static void due(String call, boolean got, boolean want) {
        CHECK.due(call, got, want);
    }

    public static void main(String[] args) {
        newObject();
        tape();
        textThatStands();
        faultsOfTheForm();
        faultsOfNumbers();
        faultsOfNames();
        faultsOfTooMany();
        ground();
        letter();
        person();
        word();
        hymn();
        where();
        lit();
        clash();
        still();
        readAndFar();
        nearest();
        said();
        danger();
        least();
        soon();
        way();
        steps();
        paintAndMissed();
        alike();
        teach();
        lamp();
        learn();
        undo();
        askTests();
        askSums();
        askFaults();
        image();
        on();
        CHECK.done();
    }

    private static String many(String what, int times) {
        StringBuilder s = new StringBuilder();
        for (int k = 0; k < times; k++) {
            s.append(what);
        }
        return s.toString();
    }

    // ---- promises 1 to 5

    private static void newObject() {
        HymnLamps x = new HymnLamps();
        for (int what = 0; what <= 8; what++) {
            due("new: ground(" + what + ")", x.ground(what), 0);
        }
        due("new: fault(0)", x.fault(0), 0);
        due("new: fault(1)", x.fault(1), NONE);
        due("new: octet(0)", x.octet(0), NONE);
        due("new: lit(0, 0)", x.lit(0, 0), NONE);
        due("new: nearest(0, 3)", x.nearest(0, 3), 0);
        due("new: nearest(100, 3)", x.nearest(100, 3), NONE);
        due("new: said(-1)", x.said(-1), 0);
        due("new: between(3, 3)", x.between(3, 3), 0);
        due("new: danger(0)", x.danger(0), NONE);
        due("new: missed(0, -1)", x.missed(0, -1), NONE);
        due("new: undo()", x.undo(), false);
    }

    private static void tape() {
        HymnLamps x = new HymnLamps();
        for (int k = 1; k <= 80; k++) {
            due("feed " + k, x.feed(0, -1, 1 << 31, 0x6E656E65, 5), 20 * k);
        }
        due("feed 81", x.feed(1, 2, 3, 4, 5), NONE);
        due("end(1601)", x.end(1601), false);
        due("end(-1)", x.end(-1), false);
        due("end(MIN)", x.end(MIN), false);
        due("end(1600)", x.end(1600), true);
        due("end(1581)", x.end(1581), true);
        due("feed above 1600 by one", x.feed(1, 2, 3, 4, 5), NONE);
        due("end(1581) again", x.end(1581), true);
        due("end(1582)", x.end(1582), false);
        due("end(0) of an empty tape", new HymnLamps().end(0), true);
        due("end(1) of an empty tape", new HymnLamps().end(1), false);
        due("end(1580)", x.end(1580), true);
        due("feed to 1600", x.feed(1, 2, 3, 4, 5), 1600);
        x = Check.on(BARE + "person a at 0 0 lamp 1 walks x;");
        // the highest byte of a number first: nesw
        x.feed(0x6E657377, 0x78786E6E, 0, 0, 0);
        due("end(8)", x.end(8), true);
        due("teach(0)", x.teach(0), true);
        int[] steps = {0, 1, 2, 3, 4, 4, 0, 0};
        for (int k = 0; k < steps.length; k++) {
            due("fed step " + k, x.person(0, 10 + k), steps[k]);
        }
        due("the tape is gone: end(1)", x.end(1), false);
        x.feed(0x6E657377, 0, 0, 0, 0);
        due("end(0)", x.end(0), true);
        due("nothing is left", x.end(1), false);
    }

    private static void textThatStands() {
        HymnLamps x = new HymnLamps();
        Check.tape(x, PLAIN);
        due("text()", x.text(), 9);
        due("the tape is gone", x.end(1), false);
        x.lamp(0, 2);
        Check.tape(x, new String(new char[12]));
        due("paint()", x.paint(), true);
        Check.tape(x, "ground 5 4; wall");
        due("text() with a FAULT", x.text(), NONE);
        due("the tape is gone with a FAULT", x.end(1), false);
        due("a FAULT leaves the ground", x.ground(0), 4);
        due("a FAULT leaves the lamps", x.person(0, 1), 2);
        due("a FAULT leaves the acts", x.ground(8), 1);
        due("a FAULT leaves the picture", x.missed(0, -1), 0);
        x.image();
        int size = x.image();
        Check.tape(x, BARE);
        due("text() anew", x.text(), 1);
        due("fault(0) anew", x.fault(0), 0);
        due("fault(1) anew", x.fault(1), NONE);
        due("nobody stays", x.ground(3), 0);
        due("no walls stay", x.ground(2), 0);
        due("no WORDS stay", x.ground(5), 0);
        due("no HYMNS stay", x.ground(6), 0);
        due("nothing can be undone", x.undo(), false);
        due("there is no picture", x.missed(0, -1), NONE);
        due("the image stays", x.octet(size - 1) != NONE, true);
        CHECK.fault(x, "\n ground\n3\n3\n;\n", 0, NONE);
        CHECK.fault(x, "ground 09 0006;wall 8 5;person n at 0 0lamp 0 walks neswxneswxne;", 1, 39);
        CHECK.fault(x, "ground 09 0006;wall 8 5;person n at 0 0 lamp 0 walks neswxneswxne;", 0, NONE);
        CHECK.fault(x, HEAD + "person first at 2 2 lamp 2 walks x; word grounx at 2 2 lamp 2; hymn grounx beat 99;", 0, NONE);
    }

    private static void faultsOfTheForm() {
        HymnLamps x = new HymnLamps();
        CHECK.fault(x, "", 1, 0);
        CHECK.fault(x, "  \n ", 1, 4);
        CHECK.fault(x, "wall 0 0;", 1, 0);
        CHECK.fault(x, " grounds 3 3;", 1, 1);
        CHECK.fault(x, "Ground 3 3;", 1, 0);
        CHECK.fault(x, "grou", 1, 0);
        CHECK.fault(x, "grounD 3 3;", 1, 0);
        CHECK.fault(x, "ground", 1, 6);
        CHECK.fault(x, "ground  ", 1, 8);
        CHECK.fault(x, "ground3 3;", 1, 6);
        CHECK.fault(x, "ground 3", 1, 8);
        CHECK.fault(x, "ground 3 3", 1, 10);
        CHECK.fault(x, "ground 3 3 3;", 1, 11);
        CHECK.fault(x, "ground 3 3;;", 1, 11);
        CHECK.fault(x, "ground\t3 3;", 1, 6);
        CHECK.fault(x, "ground 3,3;", 1, 8);
        CHECK.fault(x, HEAD + "walls 0 0;", 1, 12);
        CHECK.fault(x, HEAD + "ground 3 3;", 1, 12);
        CHECK.fault(x, HEAD + "5;", 1, 12);
        CHECK.fault(x, HEAD + "\0", 1, 12);
        CHECK.fault(x, HEAD + "\u00e9", 1, 12);
        CHECK.fault(x, HEAD + "wall a 0;", 1, 17);
        CHECK.fault(x, HEAD + "wall 0 0 lamp;", 1, 21);
        CHECK.fault(x, HEAD + "wall 0a 0;", 1, 18);
        CHECK.fault(x, HEAD + "wall 00001 0;", 1, 21);
        CHECK.fault(x, HEAD + "wall 99999 0;", 1, 21);
        CHECK.fault(x, HEAD + "person 7 at 0 0 lamp 1 walks x;", 1, 19);
        CHECK.fault(x, HEAD + "person ab3 at 0 0 lamp 1 walks x;", 1, 21);
        CHECK.fault(x, HEAD + "person aB at 0 0 lamp 1 walks x;", 1, 20);
        CHECK.fault(x, HEAD + "person a lamp 0 0 lamp 1 walks x;", 1, 21);
        CHECK.fault(x, HEAD + "person a at0 0 lamp 1 walks x;", 1, 23);
        CHECK.fault(x, HEAD + "person a 0 0 lamp 1 walks x;", 1, 21);
        CHECK.fault(x, HEAD + "person a at 0 0 1 walks x;", 1, 28);
        CHECK.fault(x, HEAD + "person a at 0 0 lamp 1 x;", 1, 35);
        CHECK.fault(x, HEAD + "word a 0 0 lamp 1;", 1, 19);
        CHECK.fault(x, HEAD + "word a at 0 0 1;", 1, 26);
        CHECK.fault(x, HEAD + "word a at 0 0 lamp 1; hymn a 1;", 1, 41);
        CHECK.fault(x, "ground 3 3 wall 0 0;", 1, 11);
        CHECK.fault(x, HEAD + "wall 0 0 wall 0 1;", 1, 21);
        CHECK.fault(x, HEAD + "person a at 0 0 lamp 1 walks x wall 1 1;", 1, 43);
        CHECK.fault(x, HEAD + "word a at 0 0 lamp 1 wall 1 1;", 1, 33);
        CHECK.fault(x, HEAD + "word a at 0 0 lamp 1; hymn a beat 1 wall 1 1;", 1, 48);
        CHECK.fault(x, HEAD + "person a at 0 0 lamp 1walks x;", 1, 34);
        CHECK.fault(x, HEAD + "person a at 0 0 lamp 1 walk x;", 1, 35);
        CHECK.fault(x, HEAD + "person a at 0 0 lamp 1 walks ;", 1, 41);
        CHECK.fault(x, HEAD + "person a at 0 0 lamp 1 walks 5;", 1, 41);
        CHECK.fault(x, HEAD + "person a at 0 0 lamp 1 walks nesa;", 1, 41);
        CHECK.fault(x, HEAD + "person a at 0 0 lamp 1 walks " + many("x", 13) + ";", 1, 41);
        CHECK.fault(x, HEAD + "person a at 0 0 lamp 1 walks n n;", 1, 43);
        CHECK.fault(x, HEAD + "person a at 0 0 lamp 1 walks n3;", 1, 42);
        CHECK.fault(x, HEAD + "word a;", 1, 18);
        CHECK.fault(x, HEAD + "word a at 0 0;", 1, 25);
        CHECK.fault(x, HEAD + "word a at 0 0 lamp 1 beat", 1, 33);
        CHECK.fault(x, HEAD + "hymn", 1, 16);
        String eight = "at 0 0 lamp 1 at 1 0 lamp 1 at 2 0 lamp 1 at 0 1 lamp 1"
                + " at 1 1 lamp 2 at 2 1 lamp 1 at 0 2 lamp 1 at 1 2 lamp 1";
        CHECK.fault(x, HEAD + "word a " + eight + ";", 0, NONE);
        CHECK.fault(x, HEAD + "word a " + eight + " at 2 2 lamp 1;", 1, 19 + eight.length() + 1);
        CHECK.fault(x, HEAD + "word a " + eight + " at 0 0 lamp 1;", 1, 19 + eight.length() + 1);
    }

    private static void faultsOfNumbers() {
        HymnLamps x = new HymnLamps();
        CHECK.fault(x, "ground 2 2", 2, 7);
        CHECK.fault(x, "ground 2a", 2, 7);
        CHECK.fault(x, "ground 10 3;", 2, 7);
        CHECK.fault(x, "ground 9 2;", 2, 9);
        CHECK.fault(x, "ground 9 7;", 2, 9);
        CHECK.fault(x, "ground 9 6; wall 8 5; wall 9 5;", 2, 27);
        CHECK.fault(x, "ground 9 6; wall 8 6;", 2, 19);
        String person = "person a at 0 0 lamp 1 walks x;";
        CHECK.fault(x, HEAD + person + "wall 0 0;", 2, 12 + person.length() + 7);
        CHECK.fault(x, HEAD + "wall 1 0; person a at 1 0 lamp 1 walks x;", 2, 36);
        CHECK.fault(x, HEAD + person + "person b at 0 0 lamp 1 walks x;", 2, 12 + person.length() + 14);
        CHECK.fault(x, HEAD + "person a at 0 0 lamp 3 walks x;", 2, 33);
        CHECK.fault(x, HEAD + "word a at 0 0 lamp 0;", 2, 31);
        CHECK.fault(x, HEAD + "word a at 0 0 lamp 3;", 2, 31);
        CHECK.fault(x, HEAD + "word a at 0 0 lamp 1 at 0 0 lamp 1;", 2, 38);
        CHECK.fault(x, HEAD + "wall 0 0; wall 0 0; word a at 0 0 lamp 1; word b at 0 0 lamp 1;", 0, NONE);
        due("one wall told twice", x.ground(2), 1);
        CHECK.fault(x, HEAD + "word a at 0 0 lamp 1; hymn a beat 100;", 2, 46);
        CHECK.fault(x, HEAD + "word a at 0 0 lamp 1; hymn a beat 99;", 0, NONE);
    }

    private static void faultsOfNames() {
        HymnLamps x = new HymnLamps();
        String[] own = {"ground", "wall", "person", "at", "lamp", "walks", "word", "hymn", "beat"};
        for (String word : own) {
            CHECK.fault(x, HEAD + "word " + word + " at 0 0 lamp 1;", 1, 17);
            CHECK.fault(x, HEAD + "person " + word, 1, 19);
            CHECK.fault(x, HEAD + "hymn " + word, 1, 17);
        }
        CHECK.fault(x, HEAD + "word abcdef at 0 0 lamp 1; word abcdefg", 1, 50);
        CHECK.fault(x, HEAD + "word personal", 1, 23);
        CHECK.fault(x, HEAD + "hymn abcdefg", 1, 23);
        CHECK.fault(x, HEAD + "word a at 0 0 lamp 1; word a at", 3, 39);
        CHECK.fault(x, HEAD + "person a at 0 0 lamp 1 walks x; word a at 0 0 lamp 1;", 3, 49);
        CHECK.fault(x, HEAD + "person a at 0 0 lamp 1 walks x; person a at 1 1 lamp 1 walks x;", 3, 51);
        CHECK.fault(x, HEAD + "word a at 0 0 lamp 1; person a5", 3, 41);
        CHECK.fault(x, HEAD + "person a at 0 0 lamp 1 walks x; hymn a beat 1;", 3, 49);
        CHECK.fault(x, HEAD + "hymn a beat 1;", 3, 17);
        CHECK.fault(x, HEAD + "word a at 0 0 lamp 1; word aa at 0 0 lamp 1; hymn aa beat 1;", 0, NONE);
    }

    private static void faultsOfTooMany() {
        HymnLamps x = new HymnLamps();
        String walls = HEAD + many("wall 0 0;", 20);
        CHECK.fault(x, walls, 0, NONE);
        CHECK.fault(x, walls + " wall", 5, walls.length() + 1);
        StringBuilder s = new StringBuilder("ground 9 3;");
        for (int k = 0; k < 10; k++) {
            s.append("person p").append((char) ('a' + k)).append(" at ").append(k % 9).append(' ').append(k / 9)
                    .append(" lamp 1 walks x;");
        }
        CHECK.fault(x, s.toString(), 0, NONE);
        due("ten PERSONS", x.ground(3), 10);
        CHECK.fault(x, s + "person 5", 5, s.length());
        for (int k = 0; k < 8; k++) {
            s.append("word w").append((char) ('a' + k)).append(" at 0 0 lamp 1;");
        }
        CHECK.fault(x, s.toString(), 0, NONE);
        CHECK.fault(x, s + "word5", 5, s.length());
        CHECK.fault(x, s + "words", 1, s.length());
        for (int k = 0; k < 10; k++) {
            s.append("hymn wa beat ").append(k).append(';');
        }
        CHECK.fault(x, s.toString(), 0, NONE);
        due("ten HYMNS", x.ground(6), 10);
        CHECK.fault(x, s + " hymn", 5, s.length() + 1);
        due("fault(2)", x.fault(2), NONE);
        due("fault(-1)", x.fault(-1), NONE);
    }

    // ---- promises 6 to 10

    private static void ground() {
        HymnLamps x = Check.on(PLAIN);
        int[] want = {4, 3, 1, 3, 2, 2, 2, 1, 0};
        for (int what = 0; what < want.length; what++) {
            due("ground(" + what + ")", x.ground(what), want[what]);
        }
        due("ground(9)", x.ground(9), NONE);
        due("ground(-1)", x.ground(-1), NONE);
        due("lamp(0, 0)", x.lamp(0, 0), true);
        due("ground(4) with a lamp less", x.ground(4), 1);
        due("ground(7) with a lamp less", x.ground(7), 0);
        due("ground(8) after an act", x.ground(8), 1);
    }

    private static void letter() {
        HymnLamps x = Check.on(HEAD + "person a at 0 0 lamp 1 walks x; person zyxwvu at 1 0 lamp 1 walks x; word mz at 0 0 lamp 1;");
        due("letter(0, 0, 0)", x.letter(0, 0, 0), 1);
        due("letter(0, 0, 1)", x.letter(0, 0, 1), 0);
        due("letter(0, 0, 5)", x.letter(0, 0, 5), 0);
        for (int k = 0; k < 6; k++) {
            due("letter(0, 1, " + k + ")", x.letter(0, 1, k), 26 - k);
        }
        due("letter(1, 0, 1)", x.letter(1, 0, 1), 26);
        due("letter(0, 0, 6)", x.letter(0, 0, 6), NONE);
        due("letter(0, 0, -1)", x.letter(0, 0, -1), NONE);
        due("letter(0, 2, 0)", x.letter(0, 2, 0), NONE);
        due("letter(0, -1, 0)", x.letter(0, -1, 0), NONE);
        due("letter(1, 1, 0)", x.letter(1, 1, 0), NONE);
        due("letter(2, 0, 0)", x.letter(2, 0, 0), NONE);
        due("letter(-1, 0, 0)", x.letter(-1, 0, 0), NONE);
    }

    private static void person() {
        HymnLamps x = Check.on(HEAD + "person a at 2 1 lamp 2 walks neswxneswxne; person b at 0 0 lamp 1 walks nenene;"
                + "person c at 1 1 lamp 0 walks nen; person d at 0 2 lamp 0 walks xx;"
                + "word w at 0 0 lamp 1 at 2 1 lamp 2; hymn w beat 0; hymn w beat 0; hymn w beat 1;");
        due("told cell", x.person(0, 0), 5);
        due("lamp", x.person(0, 1), 2);
        due("how many STEPS", x.person(0, 2), 12);
        for (int k = 0; k < 12; k++) {
            due("step " + k, x.person(0, 10 + k), k % 5);
        }
        due("step 12", x.person(0, 22), NONE);
        due("RHYME of twelve", x.person(0, 3), 12);
        due("RHYME of nenene", x.person(1, 3), 2);
        due("RHYME of nen: ne does not make it whole", x.person(2, 3), 3);
        due("RHYME of xx", x.person(3, 3), 1);
        due("LOST by a", x.person(0, 4), 2);
        due("LOST by b", x.person(1, 4), 2);
        due("LOST without a lamp", x.person(2, 4), 0);
        due("his lamp is there again", x.person(0, 1), 2);
        int[] others = {5, 9, -1, 22, MAX, MIN};
        for (int what : others) {
            due("person(0, " + what + ")", x.person(0, what), NONE);
        }
        due("person(4, 0)", x.person(4, 0), NONE);
        due("person(-1, 0)", x.person(-1, 0), NONE);
        x.lamp(2, 1);
        due("with another one's lamp nothing is sung", x.person(0, 4), 0);
    }

    private static void word() {
        HymnLamps x = Check.on(PLAIN);
        due("word(0, NONE)", x.word(0, NONE), 2);
        due("word(1, NONE)", x.word(1, NONE), 1);
        due("word(0, 1)", x.word(0, 1), 1);
        due("word(0, 2)", x.word(0, 2), 2);
        due("word(0, 0)", x.word(0, 0), 0);
        due("word(0, 11)", x.word(0, 11), 0);
        due("word(0, 12)", x.word(0, 12), NONE);
        due("word(0, -2)", x.word(0, -2), NONE);
        due("word(2, NONE)", x.word(2, NONE), NONE);
        due("word(-1, NONE)", x.word(-1, NONE), NONE);
    }

    private static void hymn() {
        HymnLamps x = Check.on(PLAIN);
        int[][] want = {{0, 1, 1, 0}, {1, 5, 0, 3}};
        for (int hymn = 0; hymn < 2; hymn++) {
            for (int what = 0; what < 4; what++) {
                due("hymn(" + hymn + ", " + what + ")", x.hymn(hymn, what), want[hymn][what]);
            }
        }
        due("hymn(0, 4)", x.hymn(0, 4), NONE);
        due("hymn(0, -1)", x.hymn(0, -1), NONE);
        due("hymn(2, 0)", x.hymn(2, 0), NONE);
        due("hymn(-1, 0)", x.hymn(-1, 0), NONE);
    }

    // ---- promises 11 to 15

    private static void where() {
        HymnLamps x = Check.on("ground 3 4; wall 1 2; person a at 1 1 lamp 1 walks neswx; person b at 1 3 lamp 1 walks n;");
        int[] a = {4, 1, 2, 5, 4, 4, 1};
        for (int beat = 0; beat < a.length; beat++) {
            due("where(0, " + beat + ")", x.where(0, beat), a[beat]);
        }
        due("99 is a beat like 4", x.where(0, 99), 4);
        due("the wall is in the way", x.where(1, 50), 10);
        due("where(0, 100)", x.where(0, 100), NONE);
        due("where(0, -1)", x.where(0, -1), NONE);
        due("where(2, 0)", x.where(2, 0), NONE);
        due("where(-1, 0)", x.where(-1, 0), NONE);
        x = Check.on("ground 3 3; person a at 0 0 lamp 1 walks nw; person b at 2 2 lamp 1 walks se;");
        due("off the ground at the top", x.where(0, 9), 0);
        due("off the ground at the end", x.where(1, 9), 8);
    }

    private static void lit() {
        HymnLamps x = Check.on("ground 3 3; person a at 0 0 lamp 1 walks ex; person b at 2 0 lamp 2 walks wx; person c at 1 1 lamp 0 walks nx;");
        due("lit(0, 0)", x.lit(0, 0), 1);
        due("lit(0, 2)", x.lit(0, 2), 2);
        due("lit(0, 4): no lamp", x.lit(0, 4), 0);
        due("lit(1, 1): the greatest", x.lit(1, 1), 2);
        due("lit(1, 0)", x.lit(1, 0), 0);
        due("how many are LIT", x.nearest(1, 3), 1);
        due("lit(99, 8)", x.lit(99, 8), 0);
        due("lit(100, 0)", x.lit(100, 0), NONE);
        due("lit(-1, 0)", x.lit(-1, 0), NONE);
        due("lit(0, 9)", x.lit(0, 9), NONE);
        due("lit(0, -1)", x.lit(0, -1), NONE);
        x = Check.on("ground 9 6; person a at 8 5 lamp 2 walks x;");
        due("lit(7, 53)", x.lit(7, 53), 2);
        due("lit(7, 54)", x.lit(7, 54), NONE);
    }

    private static void clash() {
        HymnLamps x = Check.on("ground 3 3; person a at 0 0 lamp 0 walks x; person b at 0 1 lamp 1 walks xe; person c at 1 1 lamp 1 walks xw;");
        due("b and c change in beat 2", x.clash(0), 2);
        due("clash(1)", x.clash(1), 1);
        due("clash(2)", x.clash(2), 2);
        // then b goes east into the side, c west into the side
        due("both of them are apart from 3 on", x.clashes(), 1);
        due("clash(3)", x.clash(3), NONE);
        due("clash(-1)", x.clash(-1), NONE);
        x = Check.on("ground 3 3; person a at 2 2 lamp 0 walks x; person b at 0 0 lamp 0 walks e; person c at 2 0 lamp 0 walks x;"
                + " person d at 2 1 lamp 0 walks n; person e at 1 1 lamp 0 walks nx;");
        due("d comes to c, e to b in beat 1: first by the lesser one", x.clash(0), 1);
        due("b and e", x.clash(1), 1);
        due("b and e, the other", x.clash(2), 4);
        due("clashes() till the end", x.clashes(), 99);
        x = Check.on(BARE + "person a at 0 0 lamp 1 walks e;");
        due("without a clash", x.clash(0), NONE);
        due("clashes() without one", x.clashes(), 0);
        x = Check.on(HEAD + "person a at 0 0 lamp 1 walks ex; person b at 1 0 lamp 1 walks wx;");
        due("they change in BEAT 1", x.clash(0), 1);
        due("once", x.clashes(), 1);
        x = Check.on(HEAD + "person a at 0 0 lamp 1 walks ex; person b at 1 0 lamp 1 walks xx; person c at 2 2 lamp 1 walks xxxw;");
        due("one comes to another one for two BEATS", x.clashes(), 2);
        x = Check.on(HEAD + "person a at 1 0 lamp 1 walks ew; person b at 0 0 lamp 1 walks e;");
        due("one steps aside, both meet later", x.clash(0), 2);
        x = Check.on(HEAD + "person a at 0 0 lamp 1 walks e; person b at 1 0 lamp 1 walks e;");
        due("one behind the other is none until the side", x.clash(0), 2);
    }

    private static void still() {
        HymnLamps x = Check.on("ground 3 3; person a at 0 0 lamp 1 walks esx; person b at 2 2 lamp 1 walks ns; person c at 1 1 lamp 0 walks eee;");
        due("x", x.still(0), 3);
        due("never", x.still(1), NONE);
        due("at the side", x.still(2), 2);
        due("still(3)", x.still(3), NONE);
        due("still(-1)", x.still(-1), NONE);
        due("in BEAT 1 already", Check.on(HEAD + "person a at 0 0 lamp 1 walks ne;").still(0), 1);
    }

    // ---- promises 16 to 21

    private static void readAndFar() {
        HymnLamps x = Check.on("ground 3 4; person a at 0 0 lamp 1 walks s; person b at 2 3 lamp 2 walks x;"
                + " word u at 0 3 lamp 1 at 2 0 lamp 2; word v at 0 3 lamp 1 at 2 3 lamp 2; word w at 0 3 lamp 1 at 2 3 lamp 2;"
                + " word z at 0 0 lamp 2 at 2 3 lamp 2;");
        due("read(3, false): the first of like ones", x.read(3, false), 1);
        due("read(0, true): upside down", x.read(0, true), 0);
        due("read(0, false)", x.read(0, false), NONE);
        due("read(3, true)", x.read(3, true), NONE);
        due("read(100, false)", x.read(100, false), NONE);
        due("read(-1, true)", x.read(-1, true), NONE);
        due("far of another lamp", x.far(0, 3, false), 1);
        due("far(0, 1, false)", x.far(0, 1, false), 2);
        due("far(0, 0, false)", x.far(0, 0, false), 4);
        due("far(0, 0, true)", x.far(0, 0, true), 0);
        due("far(1, 0, true)", x.far(1, 0, true), 2);
        due("far(0, 4, false)", x.far(0, 4, false), NONE);
        due("far(0, -1, false)", x.far(0, -1, false), NONE);
        due("far(100, 0, false)", x.far(100, 0, false), NONE);
        due("far(-1, 0, true)", x.far(-1, 0, true), NONE);
    }

    private static void nearest() {
        HymnLamps x = Check.on("ground 3 3; person a at 0 0 lamp 1 walks ex; word u at 2 2 lamp 1; word v at 0 0 lamp 1 at 1 0 lamp 1;"
                + " word w at 0 0 lamp 1 at 2 0 lamp 1; word z at 0 1 lamp 1 at 1 1 lamp 1 at 2 1 lamp 1;");
        due("the first of like ones", x.nearest(0, 0), 1);
        due("how far", x.nearest(0, 1), 1);
        due("no doubt less with like ones", x.nearest(0, 2), 0);
        due("beat 1", x.nearest(1, 0), 1);
        due("beat 1, doubt: u is 2 away", x.nearest(1, 2), 1);
        due("nearest(0, 3)", x.nearest(0, 3), 1);
        due("nearest(0, 4)", x.nearest(0, 4), NONE);
        due("nearest(0, -1)", x.nearest(0, -1), NONE);
        due("nearest(100, 0)", x.nearest(100, 0), NONE);
        due("nearest(-1, 3)", x.nearest(-1, 3), NONE);
        x = Check.on(HEAD + "word w at 0 0 lamp 1;");
        due("one WORD alone: its doubt", x.nearest(0, 2), 99);
        due("one WORD alone: far", x.nearest(0, 1), 1);
        x = Check.on(BARE);
        due("no WORD", x.nearest(0, 0), NONE);
        due("no WORD, how far", x.nearest(0, 1), NONE);
        due("no WORD, doubt", x.nearest(0, 2), NONE);
        due("no WORD, how many lit", x.nearest(0, 3), 0);
    }

    private static void said() {
        HymnLamps x = Check.on("ground 3 3; person a at 0 0 lamp 1 walks ew; word u at 2 0 lamp 1; word v at 1 0 lamp 1;");
        due("said(NONE)", x.said(NONE), 50);
        due("said(0)", x.said(0), 101);
        due("said(1)", x.said(1), 301);
        due("said(49)", x.said(49), 9901);
        due("said(50)", x.said(50), NONE);
        due("said(-2)", x.said(-2), NONE);
        HymnLamps ahead = Check.on(HEAD + "person a at 0 0 lamp 1 walks e; word u at 0 0 lamp 1; word v at 2 0 lamp 1;");
        due("from BEAT 0 on", ahead.said(0), 0);
        due("to BEAT 99", ahead.said(98), 9901);
        due("99 of them", ahead.said(NONE), 99);
        due("between(0, 99)", x.between(0, 99), 49);
        due("between(1, 3): neither end", x.between(1, 3), 0);
        due("between(0, 2)", x.between(0, 2), 1);
        due("between(4, 4)", x.between(4, 4), 0);
        due("between(4, 3)", x.between(4, 3), NONE);
        due("between(0, 100)", x.between(0, 100), NONE);
        due("between(-1, 5)", x.between(-1, 5), NONE);
    }

    private static void danger() {
        HymnLamps x = Check.on("ground 3 3; person a at 0 0 lamp 1 walks x; person b at 1 0 lamp 1 walks x; person c at 2 2 lamp 0 walks x;"
                + " person d at 2 0 lamp 2 walks x; word u at 0 0 lamp 1 at 1 0 lamp 1 at 2 0 lamp 2; word v at 0 0 lamp 1 at 1 0 lamp 1;");
        // without a or b the doubt stays 1; without d v is nearest
        due("another WORD nearest counts below all", x.danger(0), 3);
        x.lamp(3, 0);
        due("then the first of like ones", x.danger(0), 0);
        x = Check.on("ground 3 3; person a at 0 0 lamp 1 walks x; person b at 1 0 lamp 1 walks x;"
                + " word u at 0 0 lamp 1 at 1 0 lamp 1; word v at 0 0 lamp 1 at 2 0 lamp 1 at 2 1 lamp 1;");
        due("the least doubt", x.danger(0), 1);
        x = Check.on(HEAD + "person a at 0 0 lamp 0 walks x; person b at 1 0 lamp 1 walks x; word u at 0 0 lamp 1;");
        due("one WORD alone: the first with a lamp", x.danger(0), 1);
        due("danger(100)", x.danger(100), NONE);
        due("danger(-1)", x.danger(-1), NONE);
        x.lamp(1, 0);
        due("without lamps", x.danger(0), NONE);
        due("without WORDS", Check.on(HEAD + "person a at 0 0 lamp 1 walks x;").danger(0), NONE);
    }

    // ---- promises 22 to 25

    private static void least() {
        HymnLamps x = Check.on("ground 5 3; person a at 0 0 lamp 1 walks e; person o at 4 2 lamp 0 walks x; person b at 1 0 lamp 1 walks e;"
                + " person c at 0 2 lamp 2 walks x; word u at 1 0 lamp 1 at 2 0 lamp 1 at 4 2 lamp 2; word v at 1 0 lamp 1 at 2 0 lamp 1;"
                + " word w at 1 0 lamp 1 at 2 0 lamp 2 at 3 0 lamp 2;");
        due("all together", x.least(0, 0, NONE), 6);
        due("of like ones the lesser cell for the first", x.least(0, 0, 0), 1);
        due("the second with a lamp", x.least(0, 0, 1), 2);
        due("each by his own lamp", x.least(0, 0, 2), 14);
        due("least(0, 0, 3)", x.least(0, 0, 3), NONE);
        due("least(0, 0, -2)", x.least(0, 0, -2), NONE);
        due("a beat later", x.least(1, 0, NONE), 4);
        due("too few cells", x.least(0, 1, NONE), NONE);
        due("other lamps", x.least(0, 2, NONE), NONE);
        due("least(100, 0, NONE)", x.least(100, 0, NONE), NONE);
        due("least(-1, 0, NONE)", x.least(-1, 0, NONE), NONE);
        due("least(0, 3, NONE)", x.least(0, 3, NONE), NONE);
        due("least(0, -1, NONE)", x.least(0, -1, NONE), NONE);
        x = Check.on("ground 3 3; wall 1 0; wall 1 1; wall 1 2; person a at 0 0 lamp 1 walks x; person b at 2 0 lamp 1 walks x;"
                + " word u at 0 2 lamp 1 at 2 2 lamp 1; word v at 0 0 lamp 1 at 0 1 lamp 1; word w at 0 0 lamp 1 at 1 1 lamp 1;");
        due("each on his side", x.least(0, 0, NONE), 4);
        due("one is on the other side", x.least(0, 1, NONE), NONE);
        due("one is a wall", x.least(0, 2, NONE), NONE);
        due("a wall, soon", x.soon(0, 2), NONE);
        StringBuilder s = new StringBuilder("ground 8 3;");
        for (int k = 0; k < 8; k++) {
            s.append("person p").append((char) ('a' + k)).append(" at ").append(k).append(" 0 lamp 1 walks x;");
        }
        s.append("word u");
        for (int k = 0; k < 8; k++) {
            s.append(" at ").append(7 - k).append(" 2 lamp 1");
        }
        x = Check.on(s.append("; word v at 0 0 lamp 1 at 2 0 lamp 1;").toString());
        due("eight of them", x.least(0, 0, NONE), 16);
        due("soon, eight of them", x.soon(0, 0), 2);
        for (int k = 0; k < 8; k++) {
            due("goes " + k, x.least(0, 0, k), 16 + k);
        }
        for (int k = 0; k < 6; k++) {
            x.lamp(k, 0);
        }
        due("two of them, after the eight", x.least(0, 1, NONE), 11);
        due("g goes", x.least(0, 1, 0), 0);
        due("soon, two of them", x.soon(0, 1), 6);
    }

    private static void soon() {
        // a stays and b goes 4 by the LEAST; sooner both go 3
        HymnLamps x = Check.on("ground 4 3; person a at 0 0 lamp 1 walks x; person b at 1 2 lamp 1 walks x;"
                + " person c at 2 2 lamp 0 walks x; word u at 0 0 lamp 1 at 3 0 lamp 1;");
        due("least(0, 0, NONE)", x.least(0, 0, NONE), 4);
        due("a stays", x.least(0, 0, 0), 0);
        due("soon(0, 0)", x.soon(0, 0), 3);
        due("a waits until SOON", x.learn(0, 0), 3);
        due("b has more steps than SOON: no x", x.learn(1, 0), 4);
        x.undo();
        x.undo();
        due("soon(100, 0)", x.soon(100, 0), NONE);
        due("soon(-1, 0)", x.soon(-1, 0), NONE);
        due("soon(0, 1)", x.soon(0, 1), NONE);
        due("soon(0, -1)", x.soon(0, -1), NONE);
        x.lamp(2, 1);
        due("three do not go to two cells", x.soon(0, 0), NONE);
        x.lamp(1, 0);
        due("a stays, c goes", x.soon(0, 0), 3);
        x.lamp(0, 2);
        due("lamps that do not agree", x.soon(0, 0), NONE);
        x = Check.on("ground 4 3; wall 1 0; wall 1 1; person a at 0 0 lamp 1 walks x; person b at 2 2 lamp 1 walks x;"
                + " word u at 2 2 lamp 1 at 2 0 lamp 1;");
        due("around the wall", x.least(0, 0, NONE), 6);
        due("the lesser cell, though it is farther", x.least(0, 0, 0), 2);
        due("soon around the wall", x.soon(0, 0), 4);
    }

    private static void way() {
        HymnLamps x = Check.on(PLAIN);
        int[] ann = {0, 3, 3};
        for (int k = 0; k < 3; k++) {
            due("way of ann " + k, x.way(5, 0, 0, k), ann[k]);
        }
        due("no more", x.way(5, 0, 0, 3), NONE);
        due("way(5, 0, 0, MAX)", x.way(5, 0, 0, MAX), NONE);
        due("way(5, 0, 0, -1)", x.way(5, 0, 0, -1), NONE);
        due("without a lamp", x.way(5, 0, 2, 0), NONE);
        due("nobody", x.way(5, 0, 3, 0), NONE);
        due("below all", x.way(5, 0, -1, 0), NONE);
        due("numbers that do not agree", x.way(5, 1, 0, 0), NONE);
        due("way(100, 0, 0, 0)", x.way(100, 0, 0, 0), NONE);
        due("way(5, 2, 0, 0)", x.way(5, 2, 0, 0), NONE);
        x = Check.on("ground 3 3; person a at 2 2 lamp 1 walks x; word u at 0 0 lamp 1; word v at 2 2 lamp 1;");
        int[] north = {0, 0, 3, 3, NONE};
        for (int k = 0; k < north.length; k++) {
            due("n ahead of w " + k, x.way(0, 0, 0, k), north[k]);
        }
        due("he is there", x.way(0, 1, 0, 0), NONE);
        x = Check.on("ground 3 3; person a at 0 0 lamp 1 walks x; word u at 2 2 lamp 1;");
        int[] east = {1, 1, 2, 2, NONE};
        for (int k = 0; k < east.length; k++) {
            due("e ahead of s " + k, x.way(0, 0, 0, k), east[k]);
        }
        x = Check.on("ground 3 3; person a at 2 0 lamp 1 walks x; word u at 0 2 lamp 1;");
        due("s ahead of w", x.way(0, 0, 0, 0), 2);
    }

    private static void steps() {
        HymnLamps x = Check.on("ground 3 3; wall 1 0; wall 1 1; person a at 0 0 lamp 1 walks x;");
        due("around the wall", x.steps(0, 2), 6);
        due("to itself", x.steps(8, 8), 0);
        due("a wall to itself", x.steps(1, 1), NONE);
        due("to a wall", x.steps(0, 1), NONE);
        due("from a wall", x.steps(1, 0), NONE);
        due("steps(0, 9)", x.steps(0, 9), NONE);
        due("steps(9, 0)", x.steps(9, 0), NONE);
        due("steps(-1, 0)", x.steps(-1, 0), NONE);
        due("steps(0, -1)", x.steps(0, -1), NONE);
        x = Check.on("ground 3 3; wall 1 0; wall 1 1; wall 1 2;");
        due("behind a wall", x.steps(0, 2), NONE);
        // a snake of walls: the longest way
        x = Check.on("ground 5 3; wall 1 0; wall 1 1; wall 3 1; wall 3 2;");
        due("the snake", x.steps(0, 14), 10);
    }

    // ---- promises 26 to 28

    private static void paintAndMissed() {
        HymnLamps x = new HymnLamps();
        Check.tape(x, new int[9]);
        due("paint() without a ground", x.paint(), false);
        due("the tape is gone", x.end(1), false);
        x = Check.on("ground 3 3; person a at 0 0 lamp 1 walks eexx; person b at 0 2 lamp 2 walks ex; person c at 1 1 lamp 0 walks ns;");
        due("missed without a picture", x.missed(2, NONE), NONE);
        Check.tape(x, 0, 1, 0, 0, 0, 0, 0, 2, 0);
        due("paint()", x.paint(), true);
        // a has missed 1 or 2; c, without a lamp, changes nothing, and told the picture is another one
        due("missed(2, NONE)", x.missed(2, NONE), 2);
        due("missed(2, 0)", x.missed(2, 0), 1);
        due("missed(2, 1)", x.missed(2, 1), 2);
        due("missed(2, 2)", x.missed(2, 2), NONE);
        due("missed(2, -2)", x.missed(2, -2), NONE);
        due("missed(0, NONE)", x.missed(0, NONE), 0);
        due("missed(99, NONE)", x.missed(99, NONE) >= 0, true);
        due("missed(100, NONE)", x.missed(100, NONE), NONE);
        due("missed(-1, NONE)", x.missed(-1, NONE), NONE);
        Check.tape(x, 0, 1, 0, 0, 0, 0, 0, 2);
        due("a byte too few", x.paint(), false);
        Check.tape(x, 0, 1, 0, 0, 0, 0, 0, 2, 0, 0);
        due("a byte too many", x.paint(), false);
        Check.tape(x, 0, 1, 0, 0, 0, 0, 0, 3, 0);
        due("a lamp 3", x.paint(), false);
        Check.tape(x, 0, 1, 0, 0, 0, 0, 0, 255, 0);
        due("a byte 255", x.paint(), false);
        due("the tape is gone then", x.end(1), false);
        due("the picture stays", x.missed(2, NONE), 2);
        Check.tape(x, 0, 0, 1, 0, 0, 0, 0, 2, 0);
        due("as told", x.paint(), true);
        // c's two steps are missed without being seen; b missed none, as his second is x
        due("without a lamp", x.missed(2, NONE), 2);
        due("without a lamp, by beats", x.missed(2, 1), 202);
        x.lamp(2, 1);
        // his first step missed, c is under b's greater lamp; his second missed, he is seen
        due("the picture stays with acts", x.missed(2, NONE), 1);
        due("under the greater lamp", x.missed(2, 0), 201);
        x = Check.on(HEAD + "person a at 0 0 lamp 1 walks ex; person b at 2 2 lamp 2 walks nx;");
        Check.tape(x, 1, 0, 0, 0, 0, 2, 0, 0, 0);
        due("paint() the first cell", x.paint(), true);
        due("missed in the first cell", x.missed(1, NONE), 1);
        due("he stays in the first cell", x.missed(1, 0), 1);
        Check.tape(x, 0, 1, 0, 0, 0, 0, 0, 0, 2);
        due("paint() the last cell", x.paint(), true);
        due("he stays in the last cell", x.missed(1, 0), 101);
        x = Check.on("ground 4 3; wall 1 1; person a at 0 0 lamp 1 walks es;");
        Check.tape(x, 0, 0, 0, 0, 1, 0, 0, 0, 0, 0, 0, 0);
        due("paint() by the wall", x.paint(), true);
        due("his others as told: s in beat 2 goes then", x.missed(2, 0), 1);
        due("missed a step that was none does not count", x.missed(2, NONE), 1);
    }

    private static void alike() {
        HymnLamps x = Check.on("ground 3 3; person a at 0 0 lamp 1 walks ne; person b at 1 0 lamp 1 walks nenene;"
                + " person c at 2 0 lamp 1 walks en; person d at 0 1 lamp 1 walks nen; person e at 1 1 lamp 0 walks nene;");
        due("alike(NONE)", x.alike(NONE), 3);
        due("alike(0)", x.alike(0), 3);
        due("alike(1)", x.alike(1), 3);
        due("alike(2)", x.alike(2), 1);
        due("alike(3)", x.alike(3), 1);
        due("alike(4)", x.alike(4), 3);
        due("alike(5)", x.alike(5), NONE);
        due("alike(-2)", x.alike(-2), NONE);
        due("alike(NONE) of nobody", Check.on(BARE).alike(NONE), 0);
        x = Check.on("ground 3 3; person a at 0 0 lamp 1 walks enx; person b at 1 0 lamp 1 walks enxenx;"
                + " person c at 2 0 lamp 1 walks w; person d at 0 1 lamp 1 walks wwww; person e at 1 1 lamp 0 walks wwwwwwwwwww;"
                + " person f at 2 1 lamp 1 walks enxenw; person g at 0 2 lamp 1 walks enxenxenxenx;");
        due("sorts", x.alike(NONE), 3);
        due("alike by three", x.alike(0), 3);
        due("alike by one", x.alike(4), 3);
        due("another one at last", x.alike(5), 1);
        due("RHYME of eleven", x.person(4, 3), 1);
        due("RHYME of twelve by three", x.person(6, 3), 3);
    }

    // ---- promises 29 to 32

    private static boolean taught(HymnLamps x, int person, String steps) {
        Check.tape(x, steps);
        boolean taught = x.teach(person);
        due("the tape goes with '" + steps + "'", x.end(1), false);
        return taught;
    }

    private static void teach() {
        HymnLamps x = Check.on("ground 3 3; person a at 0 0 lamp 1 walks x; person b at 2 2 lamp 1 walks x;");
        due("teach ess", taught(x, 0, "ess"), true);
        due("how many", x.person(0, 2), 3);
        due("where(0, 3)", x.where(0, 3), 7);
        due("the other one stays", x.where(1, 3), 8);
        due("an act", x.ground(8), 1);
        String[] wrong = {"", "nesq", "n ", " n", "N", "n;", "nesw" + many("x", 9), "n\0"};
        for (String steps : wrong) {
            due("teach '" + steps + "'", taught(x, 0, steps), false);
        }
        due("teach(2)", taught(x, 2, "n"), false);
        due("teach(-1)", taught(x, -1, "n"), false);
        due("it stays", x.person(0, 2), 3);
        due("no act", x.ground(8), 1);
        due("teach twelve", taught(x, 0, "neswxneswxne"), true);
        due("the twelfth", x.person(0, 21), 1);
        due("taught the same again", taught(x, 0, "neswxneswxne"), true);
        due("acts", x.ground(8), 3);
    }

    private static void lamp() {
        HymnLamps x = Check.on("ground 3 3; person a at 0 0 lamp 1 walks x;");
        due("lamp(0, 1): it is so already", x.lamp(0, 1), false);
        due("no act", x.ground(8), 0);
        due("lamp(0, 2)", x.lamp(0, 2), true);
        due("lit(0, 0)", x.lit(0, 0), 2);
        due("lamp(0, 0)", x.lamp(0, 0), true);
        due("lit(0, 0) then", x.lit(0, 0), 0);
        due("lamp(0, 3)", x.lamp(0, 3), false);
        due("lamp(0, -1)", x.lamp(0, -1), false);
        due("lamp(1, 1)", x.lamp(1, 1), false);
        due("lamp(-1, 1)", x.lamp(-1, 1), false);
        due("two acts", x.ground(8), 2);
    }

    private static void learn() {
        HymnLamps x = Check.on("ground 9 6; person a at 0 0 lamp 1 walks n; person b at 8 5 lamp 1 walks n; person c at 4 4 lamp 0 walks n;"
                + " word u at 0 0 lamp 1 at 8 3 lamp 1; word v at 0 0 lamp 1 at 8 5 lamp 1; word w at 8 4 lamp 1 at 7 5 lamp 1;"
                + " word y at 2 0 lamp 1 at 8 5 lamp 1; word z at 0 0 lamp 1;");
        due("he stays as long as the other one goes", x.learn(0, 0), 2);
        due("x", x.person(0, 10), 4);
        due("x again", x.person(0, 11), 4);
        due("the other one's way", x.learn(1, 0), 2);
        due("n", x.person(1, 10), 0);
        due("n again", x.person(1, 11), 0);
        due("it is said then", x.read(2, false), 0);
        due("there would be none", x.learn(0, 1), NONE);
        due("a goes 12", x.least(0, 2, NONE), 13);
        due("twelve steps", x.learn(0, 2), 12);
        due("the other one waits for him", x.learn(1, 2), 12);
        due("his way", x.person(1, 10), 3);
        due("the rest is x", x.person(1, 21), 4);
        due("without a lamp", x.learn(2, 0), NONE);
        due("learn(3, 0)", x.learn(3, 0), NONE);
        due("learn(-1, 0)", x.learn(-1, 0), NONE);
        due("learn(0, 5)", x.learn(0, 5), NONE);
        due("learn(0, -1)", x.learn(0, -1), NONE);
        due("numbers that do not agree", x.learn(0, 4), NONE);
        due("acts", x.ground(8), 4);
        x = Check.on("ground 9 6; person a at 0 0 lamp 1 walks n; word u at 8 5 lamp 1; word v at 8 4 lamp 1;");
        due("thirteen are too many", x.learn(0, 0), NONE);
        due("no act", x.ground(8), 0);
        due("twelve", x.learn(0, 1), 12);
        x.lamp(0, 2);
        due("another lamp", x.learn(0, 1), NONE);
        x.undo();
        due("by beat 12", x.read(12, false), 1);
        x = Check.on(HEAD + "person a at 0 0 lamp 1 walks n; word u at 1 0 lamp 1;");
        due("one step", x.learn(0, 0), 1);
        due("e", x.person(0, 10), 1);
    }

    private static void undo() {
        HymnLamps x = Check.on("ground 3 3; person a at 0 0 lamp 1 walks e; word w at 1 1 lamp 1;");
        due("undo() of nothing", x.undo(), false);
        due("teach", taught(x, 0, "s"), true);
        due("lamp(0, 2)", x.lamp(0, 2), true);
        due("undo()", x.undo(), true);
        due("his lamp", x.person(0, 1), 1);
        due("his steps stay", x.where(0, 1), 3);
        due("learn(0, 0)", x.learn(0, 0), 2);
        due("undo() of learn", x.undo(), true);
        due("as before", x.person(0, 2), 1);
        due("his walk as before", x.where(0, 1), 3);
        due("undo() of teach", x.undo(), true);
        due("as told", x.where(0, 1), 1);
        due("no more", x.undo(), false);
        for (int k = 0; k < 25; k++) {
            due("act " + k, x.lamp(0, k % 2 == 0 ? 2 : 1), true);
            due("acts that can be undone", x.ground(8), Math.min(20, k + 1));
        }
        for (int k = 0; k < 20; k++) {
            due("undo " + k, x.undo(), true);
            due("lamp at " + k, x.person(0, 1), k % 2 == 0 ? 1 : 2);
        }
        due("no more than twenty", x.undo(), false);
        due("the five first stay", x.person(0, 1), 2);
        x = Check.on("ground 3 3; person a at 0 0 lamp 1 walks e; person b at 2 2 lamp 2 walks w; person c at 1 1 lamp 0 walks x;");
        x.lamp(2, 2);
        taught(x, 1, "n");
        x.lamp(0, 0);
        due("undo the third", x.undo(), true);
        due("a has his lamp", x.person(0, 1), 1);
        due("b has learnt", x.where(1, 1), 5);
        due("undo the second", x.undo(), true);
        due("b goes as told", x.where(1, 1), 7);
        due("c has his lamp still", x.person(2, 1), 2);
        due("undo the first", x.undo(), true);
        due("c has none", x.person(2, 1), 0);
        due("ground(8)", x.ground(8), 0);
    }

    // ---- promise 33

    private static void askTests() {
        HymnLamps x = new HymnLamps();
        Check.tape(x, "x");
        x.text();
        Check.tape(x, "often all");
        due("ask() without a ground", x.ask(), HymnLamps.NOTHING);
        due("the tape is gone", x.end(1), false);
        due("fault(0) stays", x.fault(0), 1);
        due("fault(1) stays", x.fault(1), 0);
        x = Check.on(PLAIN);
        CHECK.asked(x, "often all", 100);
        CHECK.asked(x, "first all", 0);
        CHECK.asked(x, " last\nall ", 99);
        CHECK.asked(x, "first not all", -1);
        CHECK.asked(x, "last not all", -1);
        CHECK.asked(x, "often not all", 0);
        CHECK.asked(x, "often not not all", 100);
        CHECK.asked(x, "first beat>7", 8);
        CHECK.asked(x, "last beat<7", 6);
        CHECK.asked(x, "often beat=7", 1);
        CHECK.asked(x, "often beat<10 or beat>95", 14);
        CHECK.asked(x, "often beat>10 and beat<20", 9);
        // and holds closer than or; not closer than both
        CHECK.asked(x, "often all or all and beat=1", 100);
        CHECK.asked(x, "often [all or all] and beat=1", 1);
        CHECK.asked(x, "often beat=1 and all or all", 100);
        CHECK.asked(x, "often beat=1 or beat=2 and beat=3 or beat=4", 2);
        CHECK.asked(x, "often not beat=1 and beat<5", 4);
        CHECK.asked(x, "often not [beat=1 and beat<5]", 99);
        CHECK.asked(x, "often not beat=1 or beat=1", 100);
        CHECK.asked(x, "often clash=1", 1);
        CHECK.asked(x, "first clash>0", 2);
        CHECK.asked(x, "first read=1", 1);
        CHECK.asked(x, "often read=0", 99);
        CHECK.asked(x, "often [[[[[[all]]]]]]", 100);
        CHECK.asked(x, "often [[[[[ not all ]]]]] or [[[[[[all]]]]]]", 100);
        CHECK.asked(x, "often not not not not not not all", 100);
        CHECK.asked(x, "often not not not not not not all and not not not not not not all", 100);
    }

    private static void askSums() {
        HymnLamps x = Check.on(PLAIN);
        CHECK.asked(x, "total beat", 4950);
        CHECK.asked(x, "most beat", 99);
        CHECK.asked(x, "least beat", 0);
        CHECK.asked(x, "total 1-2-3", -400);
        CHECK.asked(x, "total 1-2*3+4", -100);
        CHECK.asked(x, "total 12/4/3*5", 500);
        CHECK.asked(x, "total (1-2)*(3+4)", -700);
        CHECK.asked(x, "most (0-7)/2", -4);
        CHECK.asked(x, "most 7/(0-2)", -4);
        CHECK.asked(x, "most (0-7)/(0-2)", 3);
        CHECK.asked(x, "most 7/0", 0);
        CHECK.asked(x, "most beat/10", 9);
        CHECK.asked(x, "most min(3,beat)", 3);
        CHECK.asked(x, "least max ( 3 , beat )", 3);
        CHECK.asked(x, "most min(1+2,4)*max(5,6)", 18);
        CHECK.asked(x, "most 9999*9999", 1000000);
        CHECK.asked(x, "most 9999*9999-1", 999999);
        CHECK.asked(x, "least 0-9999*9999", -1000000);
        CHECK.asked(x, "least 0-9999*9999-5", -1000000);
        CHECK.asked(x, "least (0-9999)*9999+1", -999999);
        CHECK.asked(x, "most 1000*1000+1", 1000000);
        CHECK.asked(x, "most (1000*1000+1)*(0-1)", -1000000);
        CHECK.asked(x, "total 1000*1000", 100000000);
        CHECK.asked(x, "total 0-1000*1000", -100000000);
        CHECK.asked(x, "most at 0", 11);
        CHECK.asked(x, "least at 3", 99);
        CHECK.asked(x, "least at (0-1)", 99);
        CHECK.asked(x, "least at 9999", 99);
        CHECK.asked(x, "most at 2+1", 9);
        CHECK.asked(x, "most far 0", 4);
        CHECK.asked(x, "least far 0", 0);
        CHECK.asked(x, "least far 2", 99);
        CHECK.asked(x, "least far (0-1)", 99);
        CHECK.asked(x, "most glow 12", 0);
        CHECK.asked(x, "most glow (0-1)", 0);
        CHECK.asked(x, "most glow (9999*9999)", 0);
        CHECK.asked(x, "most glow at 1", 2);
        CHECK.asked(x, "most at glow at glow at 0", 8);
        CHECK.asked(x, "total lit", 199);
        CHECK.asked(x, "total read", 1);
        CHECK.asked(x, "total clash", 1);
        CHECK.asked(x, "most min(min(min(min(min(min(1,2),3),4),5),6),7)", 1);
        CHECK.asked(x, "most ((((((5))))))+((((((6))))))", 11);
        Check.tape(x, "total beat");
        x.ask();
        due("the tape is gone", x.end(1), false);
        x.lamp(1, 0);
        CHECK.asked(x, "total lit", 100);
    }

    private static void askFaults() {
        HymnLamps x = Check.on(PLAIN);
        CHECK.askedFault(x, "", 1, 0);
        CHECK.askedFault(x, "  ", 1, 2);
        CHECK.askedFault(x, "when all", 1, 0);
        CHECK.askedFault(x, "First all", 1, 0);
        CHECK.askedFault(x, "firsts all", 1, 0);
        CHECK.askedFault(x, "5", 1, 0);
        CHECK.askedFault(x, "total", 1, 5);
        CHECK.askedFault(x, "total ", 1, 6);
        CHECK.askedFault(x, "total5", 1, 5);
        CHECK.askedFault(x, "total beat5", 1, 10);
        CHECK.askedFault(x, "total at5", 1, 8);
        CHECK.askedFault(x, "total 5at", 1, 7);
        CHECK.askedFault(x, "first beat", 1, 10);
        CHECK.askedFault(x, "first beat beat", 1, 11);
        CHECK.askedFault(x, "first beat<", 1, 11);
        CHECK.askedFault(x, "first beat<=5", 1, 11);
        CHECK.askedFault(x, "first beat<5<6", 1, 12);
        CHECK.askedFault(x, "first beat<5and all", 1, 12);
        CHECK.askedFault(x, "first all and", 1, 13);
        CHECK.askedFault(x, "first all or or", 1, 13);
        CHECK.askedFault(x, "first [all", 1, 10);
        CHECK.askedFault(x, "first [all)", 1, 10);
        CHECK.askedFault(x, "first (all)", 1, 7);
        CHECK.askedFault(x, "first ([all])", 1, 7);
        CHECK.askedFault(x, "first all]", 1, 9);
        CHECK.askedFault(x, "first not", 1, 9);
        CHECK.askedFault(x, "first 1<not all", 1, 8);
        CHECK.askedFault(x, "total all", 1, 6);
        CHECK.askedFault(x, "total -5", 1, 6);
        CHECK.askedFault(x, "total 5+", 1, 8);
        CHECK.askedFault(x, "total 5 beat", 1, 8);
        CHECK.askedFault(x, "total 5 12345", 1, 8);
        CHECK.askedFault(x, "total 12345", 1, 10);
        CHECK.askedFault(x, "total at 12345", 1, 13);
        CHECK.askedFault(x, "total min 5", 1, 10);
        CHECK.askedFault(x, "total min+5", 1, 9);
        CHECK.askedFault(x, "total max", 1, 9);
        CHECK.askedFault(x, "total min(5)", 1, 11);
        CHECK.askedFault(x, "total min(5,6", 1, 13);
        CHECK.askedFault(x, "total min(5,6,7)", 1, 13);
        CHECK.askedFault(x, "total mins(5,6)", 1, 6);
        CHECK.askedFault(x, "total (5", 1, 8);
        CHECK.askedFault(x, "total ()", 1, 7);
        CHECK.askedFault(x, "total 5;", 1, 7);
        CHECK.askedFault(x, "total ann", 1, 6);
        CHECK.askedFault(x, "total 5\t", 1, 7);
        CHECK.askedFault(x, "total (((((((", 4, 12);
        CHECK.askedFault(x, "total ((((((", 1, 12);
        CHECK.askedFault(x, "first [[[[[[[", 4, 12);
        CHECK.askedFault(x, "first not [not [at (5)]]", 1, 22);
        CHECK.askedFault(x, "first not [not [at (far 5)]]", 4, 20);
        CHECK.askedFault(x, "total glow at far glow at far glow 1", 4, 30);
        CHECK.askedFault(x, "total glow at far glow at far 1 + at", 1, 36);
        CHECK.askedFault(x, "total min(min(min(min(min(min(min(1,2)", 4, 33);
        CHECK.askedFault(x, "total ((((((min(1,2)))))))", 4, 15);
        CHECK.askedFault(x, "total ((((((min", 1, 15);
        CHECK.askedFault(x, "first [[[[[[1<not", 1, 14);
        CHECK.askedFault(x, "first [[[[[[not", 4, 12);
        CHECK.askedFault(x, "first not not not not not not not", 4, 30);
        due("a FAULT of ask() leaves the ground", x.ground(3), 3);
        CHECK.asked(x, "total ((((((1))))))", 100);
        String longest = "total " + many("1+", 796) + "1";
        x = Check.on(PLAIN);
        for (int k = 0; k < 3; k++) {
            CHECK.asked(x, longest, 79700);
        }
        CHECK.askedFault(x, longest + ";", 1, 1599);
        CHECK.asked(x, "most 1-(2-min(3,4-(5-max(6,7-(8-9*(10+11))))))", 2);
        String deep = "often [1=0 or 1=1 and [1=0 or 1=1 and [1=0 or 1=1 and [1=0 or 1=1 and 1-2*min(1,2-3*max(1,1+1*1))<0]]]]";
        CHECK.asked(x, deep, 0);
        CHECK.asked(x, deep.replace("<0", ">0"), 100);
    }

    // ---- promises 34 to 36

    private static void image() {
        HymnLamps x = Check.on(HEAD + "person a at 0 0 lamp 2 walks nx; person b at 1 0 lamp 0 walks e;");
        due("octet(0) ahead of any", x.octet(0), NONE);
        due("image()", x.image(), 8);
        int[] want = {2, 2, 0, 4, 0, 1, 1, 0};
        int sum = 109;
        for (int k = 0; k < 7; k++) {
            sum = (3 * sum + want[k]) % 251;
        }
        want[7] = sum;
        for (int k = 0; k < want.length; k++) {
            due("octet(" + k + ")", x.octet(k), want[k]);
        }
        due("octet(8)", x.octet(8), NONE);
        due("octet(-1)", x.octet(-1), NONE);
        x.lamp(0, 1);
        due("the latest image stays", x.octet(0), 2);
        due("image() anew", x.image(), 8);
        due("octet(0) anew", x.octet(0), 1);
        due("image() of nobody", new HymnLamps().image(), 1);
        StringBuilder s = new StringBuilder("ground 9 3;");
        for (int k = 0; k < 10; k++) {
            s.append("person p").append((char) ('a' + k)).append(" at ").append(k % 9).append(' ').append(k / 9)
                    .append(" lamp 1 walks neswxneswxne;");
        }
        x = Check.on(s.toString());
        due("the longest image", x.image(), 141);
        due("octet(140)", x.octet(140) != NONE, true);
        due("octet(141)", x.octet(141), NONE);
    }

    private static boolean boarded(HymnLamps x, int... bytes) {
        Check.image(x, bytes);
        boolean on = x.on();
        due("the tape is gone", x.end(1), false);
        return on;
    }

    private static void on() {
        HymnLamps x = new HymnLamps();
        due("on() without a ground", boarded(x), false);
        x = Check.on(HEAD + "person a at 0 0 lamp 2 walks nx; person b at 1 0 lamp 0 walks e;");
        Check.tape(x, new int[9]);
        x.paint();
        x.lamp(1, 1);
        due("on()", boarded(x, 1, 1, 2, 2, 3, 4, 0, 0), true);
        due("lamps", x.person(0, 1), 1);
        due("lamps, too", x.person(1, 1), 2);
        due("STEPS", x.person(0, 10), 2);
        due("how many STEPS", x.person(1, 2), 3);
        due("the walk is another one", x.where(0, 1), 3);
        due("nothing can be undone", x.undo(), false);
        due("the picture stays", x.missed(0, NONE), 0);
        x.lamp(0, 2);
        Check.tape(x, 1, 1, 2, 2, 3, 4, 0, 0, 0);
        due("another sum", x.on(), false);
        due("a person too few", boarded(x, 1, 1, 2), false);
        due("a byte too many", boarded(x, 1, 1, 2, 2, 3, 4, 0, 0, 0), false);
        due("a byte too few", boarded(x, 1, 1, 2, 2, 3, 4, 0), false);
        due("a lamp 3", boarded(x, 3, 1, 2, 2, 3, 4, 0, 0), false);
        due("no steps", boarded(x, 1, 0, 2, 3, 4, 0, 0), false);
        due("thirteen steps", boarded(x, 1, 13, 4, 4, 4, 4, 4, 4, 4, 4, 4, 4, 4, 4, 4, 2, 3, 4, 0, 0), false);
        due("a step 5", boarded(x, 1, 1, 5, 2, 3, 4, 0, 0), false);
        due("nothing", boarded(x), false);
        Check.tape(x, "");
        due("an empty tape", x.on(), false);
        due("a bad step behind others", boarded(x, 1, 1, 2, 2, 3, 4, 0, 5), false);
        due("a bad step at last", boarded(x, 1, 3, 2, 1, 9, 2, 1, 0), false);
        due("all stays", x.person(0, 1), 2);
        due("acts stay", x.ground(8), 1);
        due("image() of what is on", x.image(), 9);
        int[] twelve = {2, 12, 0, 1, 2, 3, 4, 0, 1, 2, 3, 4, 4, 3, 1, 5, 3, 2, 1, 0, 4};
        due("twelve steps on", boarded(x, twelve), true);
        for (int k = 0; k < 12; k++) {
            due("step on " + k, x.person(0, 10 + k), twelve[2 + k]);
        }
        for (int k = 0; k < 5; k++) {
            due("other step on " + k, x.person(1, 10 + k), twelve[16 + k]);
        }
        due("twelve and no more", x.person(0, 22), NONE);
        due("five and no more", x.person(1, 15), NONE);
        x = Check.on(BARE);
        due("an image of nobody", boarded(x), true);
        Check.tape(x, 108);
        due("another sum of nobody", x.on(), false);
    }
}
