import java.util.Arrays;
import java.util.function.Predicate;

/** Promises 1 to 36: each sentence that names a boundary case has a test of its own; its name begins with the promise. */
public final class CallEdgesTest {
    private static final int NONE = HymnLamps.NONE;
    private static final int MAX = Integer.MAX_VALUE;
    private static final int MIN = Integer.MIN_VALUE;
    private static final Check CHECK = new Check();
    private static final String HEAD = "ground 3 3;";
    private static final String PLAIN = "ground 4 3; wall 1 1; person ann at 0 0 lamp 1 walks es;"
            + " person bob at 3 0 lamp 2 walks w; person cid at 0 2 lamp 0 walks x;"
            + " word dot at 1 0 lamp 1 at 2 0 lamp 2; word bar at 0 1 lamp 1; hymn dot beat 1; hymn bar beat 5;";
    /** Numbers that are no BEAT, those at the edges first. */
    private static final int[] NO_BEATS = {-1, 100, -2, 101, MIN, MAX, 1 << 16, 128, 256};

    public static void main(String[] args) {
        constants();
        fiveHundredAndTwelveCalls();
        p1NewObject();
        p1NewObjectRefuses();
        p2FedUpTo1600();
        p2RefusedFeedDoesNothing();
        p2HighestByteFirst();
        p3EndOfWhatIsThere();
        p3RefusedEndDoesNothing();
        p4TheTapeGoes();
        p4AllStaysWithAFault();
        p4WithoutAStatement();
        p4WithoutAFaultNothingStays();
        p5NoFault();
        p5OfTheLatest();
        p5AnotherWhat();
        p6OfNobody();
        p6Others();
        p6ActsFromNoneToTwenty();
        p7Letters();
        p7NoneSuch();
        p8Persons();
        p8Steps();
        p9Cells();
        p10Hymns();
        p11Where();
        p12Lit();
        p13ClashOthers();
        p14Clashes();
        p15Still();
        p16Read();
        p17Far();
        p18Nearest();
        p18WithoutWords();
        p19Said();
        p20Between();
        p20BothEndsAreOut();
        p21Danger();
        p21WithoutLampsOrWords();
        p22Least();
        p23Soon();
        p24Way();
        p25Steps();
        p25ToItself();
        p25LongestWay();
        p26Paint();
        p26RefusedPaint();
        p26PaintWithoutAGround();
        p27Missed();
        p27WithoutAPicture();
        p28Alike();
        p29Teach();
        p29RefusedTeach();
        p30Lamp();
        p30RefusedLamp();
        p31LearnUntilSoon();
        p31LearnTwelve();
        p31RefusedLearn();
        p32UndoEachKind();
        p32RefusedUndo();
        p33WithoutAGround();
        p33WithAFault();
        p33ChangesNothing();
        p34Image();
        p34ImageOfNobody();
        p34LongestImage();
        p35Octet();
        p35LatestImage();
        p36On();
        p36OnAndAlike();
        p36RefusedOn();
        p36OnWithoutAGround();
        p36OnOfNobody();
        p36BytesFrom128On();
        theTapeGoes();
        othersLeaveTheTape();
        CHECK.done();
    }

    private static void due(String call, long got, long want) {
        CHECK.due(call, got, want);
    }

    private static void due(String call, boolean got, boolean want) {
        CHECK.due(call, got, want);
    }

    /** PLAIN with an ACT, a PICTURE that ann may have missed, and an image. */
    private static HymnLamps busy() {
        HymnLamps x = Check.on(PLAIN);
        Check.tape(x, 0, 2, 0, 0, 1, 0, 0, 0, 0, 0, 0, 0);
        due("paint()", x.paint(), true);
        x.image();
        due("lamp()", x.lamp(2, 1), true);
        due("lamp()", x.lamp(2, 0), true);
        return x;
    }

    /** A call that is refused, and leaves all as it was. */
    private static void refused(String name, Predicate<HymnLamps> refuses) {
        HymnLamps x = busy();
        String before = Check.answers(x);
        due(name + " is refused", refuses.test(x), true);
        CHECK.same(name, Check.answers(x), before);
        due(name + " leaves the latest ACT", x.undo(), true);
        due("its lamp", x.person(2, 1), 1);
        due(name + " leaves the ACT before", x.undo(), true);
        due("its lamp", x.person(2, 1), 0);
        due(name + " leaves no other ACT", x.undo(), false);
    }

    private static String ten(int lamp, String steps) {
        StringBuilder s = new StringBuilder("ground 9 6;");
        for (int k = 0; k < 10; k++) {
            s.append("person p").append((char) ('a' + k)).append(" at ").append(k % 9).append(' ').append(k / 9)
                    .append(" lamp ").append(lamp).append(" walks ").append(steps).append(';');
        }
        return s.toString();
    }

    /** The public face: "NONE = -1", "NOTHING = -1000000000000000L". */
    private static void constants() {
        due("NONE", HymnLamps.NONE, -1);
        due("NOTHING", HymnLamps.NOTHING, -1000000000000000L);
    }

    /** "An object is used for at most 512 calls after it has been made": the 512th is answered like others. */
    private static void fiveHundredAndTwelveCalls() {
        HymnLamps x = Check.on(HEAD + "person a at 0 0 lamp 1 walks x;");
        // end, three times feed, end, text were six
        for (int call = 7; call < 512; call++) {
            due("call " + call, x.lamp(0, call % 2 == 1 ? 2 : 1), true);
        }
        due("call 512", x.ground(8), 20);
    }

    /** 1: "No ground, nobody." */
    private static void p1NewObject() {
        HymnLamps x = new HymnLamps();
        for (int what = 0; what <= 8; what++) {
            due("ground(" + what + ")", x.ground(what), 0);
        }
        due("clashes()", x.clashes(), 0);
        due("nearest(0, 3)", x.nearest(0, 3), 0);
        due("said(NONE)", x.said(NONE), 0);
        due("between(0, 99)", x.between(0, 99), 0);
        due("alike(NONE)", x.alike(NONE), 0);
        due("feed", x.feed(0, 0, 0, 0, 0), 20);
    }

    /** 1: "No ground, nobody": all else is none such. */
    private static void p1NewObjectRefuses() {
        HymnLamps x = new HymnLamps();
        int[] got = {x.letter(0, 0, 0), x.letter(1, 0, 0), x.person(0, 0), x.word(0, NONE), x.word(0, 0), x.hymn(0, 0), x.where(0, 0),
            x.lit(0, 0), x.clash(0), x.clash(1), x.clash(2), x.still(0), x.read(0, false), x.read(0, true), x.far(0, 0, false),
            x.nearest(0, 0), x.nearest(0, 1), x.nearest(0, 2), x.said(0), x.danger(0), x.least(0, 0, NONE), x.least(0, 0, 0), x.soon(0, 0),
            x.way(0, 0, 0, 0), x.steps(0, 0), x.missed(0, NONE), x.alike(0), x.learn(0, 0), x.octet(0), x.fault(1)};
        for (int k = 0; k < got.length; k++) {
            due("new object, call " + k, got[k], NONE);
        }
        due("lamp(0, 1)", x.lamp(0, 1), false);
        due("undo()", x.undo(), false);
        due("fault(0)", x.fault(0), 0);
    }

    /** 2: "NONE .. if there would be more than 1600": 1600 is the most. */
    private static void p2FedUpTo1600() {
        HymnLamps x = new HymnLamps();
        for (int k = 1; k <= 80; k++) {
            due("feed " + k, x.feed(k, 0, MIN, MAX, -1), 20 * k);
        }
        due("feed 81", x.feed(0, 0, 0, 0, 0), NONE);
        due("end(1581)", x.end(1581), true);
        due("to 1601", x.feed(0, 0, 0, 0, 0), NONE);
        due("end(1580)", x.end(1580), true);
        due("to 1600", x.feed(0, 0, 0, 0, 0), 1600);
        due("end(0)", x.end(0), true);
        due("from 0 again", x.feed(0, 0, 0, 0, 0), 20);
        due("end(1)", x.end(1), true);
        due("from 1", x.feed(0, 0, 0, 0, 0), 21);
    }

    /** 2: "doing nothing, if there would be more": the tape stays as it is. */
    private static void p2RefusedFeedDoesNothing() {
        HymnLamps x = new HymnLamps();
        Check.tape(x, PLAIN + " ".repeat(1600 - PLAIN.length()));
        for (int k = 0; k < 3; k++) {
            due("feed of a full tape", x.feed(0x3B3B3B3B, 1, 2, 3, 4), NONE);
        }
        due("text() of what was there", x.text(), 9);
        Check.tape(x, PLAIN + " ".repeat(1590 - PLAIN.length()));
        due("feed of an almost full tape", x.feed(0x3B3B3B3B, 1, 2, 3, 4), NONE);
        due("end(1591)", x.end(1591), false);
        due("end(1590)", x.end(1590), true);
        due("text() of what was there", x.text(), 9);
        refused("feed", y -> {
            Check.tape(y, " ".repeat(1600));
            return y.feed(1, 2, 3, 4, 5) == NONE;
        });
    }

    /** 2: "Twenty bytes come behind those on the tape, of each number the highest first". */
    private static void p2HighestByteFirst() {
        HymnLamps x = Check.on("ground 5 4;");
        x.feed(0x00010200, 0x01020001, 0x02000102, 0x00010200, 0x01020001);
        due("paint() of twenty cells", x.paint(), true);
        x.feed(0x00010200, 0x01020001, 0x02000102, 0x00010200, 0x010200FF);
        due("the last byte is of the fifth number", x.paint(), false);
        x.feed(0xFF010200, 0x01020001, 0x02000102, 0x00010200, 0x01020001);
        due("the first byte is of the first number", x.paint(), false);
        x = Check.on(HEAD + "person a at 0 0 lamp 1 walks x;");
        x.feed(0x6E657377, 0x78776573, 0x6E656573, 0x41414141, 0x41414141);
        x.end(12);
        due("teach(0)", x.teach(0), true);
        int[] steps = {0, 1, 2, 3, 4, 3, 1, 2, 0, 1, 1, 2};
        for (int k = 0; k < steps.length; k++) {
            due("step " + k, x.person(0, 10 + k), steps[k]);
        }
    }

    /** 3: "The tape has its first n bytes alone": none, one, all. */
    private static void p3EndOfWhatIsThere() {
        HymnLamps x = new HymnLamps();
        due("end(0) of nothing", x.end(0), true);
        due("end(1) of nothing", x.end(1), false);
        x.feed(0, 0, 0, 0, 0);
        due("end(20)", x.end(20), true);
        due("end(1)", x.end(1), true);
        due("end(1) again", x.end(1), true);
        due("end(0)", x.end(0), true);
        due("gone", x.end(1), false);
        Check.tape(x, PLAIN + "x");
        due("end of all but one", x.end(PLAIN.length()), true);
        due("text()", x.text(), 9);
    }

    /** 3: "false, doing nothing, if it has not so many, or n is below 0". */
    private static void p3RefusedEndDoesNothing() {
        HymnLamps x = new HymnLamps();
        Check.tape(x, PLAIN);
        for (int n : new int[] {PLAIN.length() + 1, -1, MIN, MAX, 1600, 1601}) {
            due("end(" + n + ")", x.end(n), false);
        }
        due("all is there", x.end(PLAIN.length()), true);
        due("text()", x.text(), 9);
        refused("end(1)", y -> !y.end(1));
        refused("end(-1)", y -> !y.end(-1));
    }

    /** 4: "The tape (it goes)": with and without a FAULT. */
    private static void p4TheTapeGoes() {
        HymnLamps x = new HymnLamps();
        Check.tape(x, PLAIN);
        x.text();
        due("gone", x.end(1), false);
        Check.tape(x, "x");
        x.text();
        due("gone with a FAULT", x.end(1), false);
        due("so there is no STATEMENT", x.text(), NONE);
        due("at 0", x.fault(1), 0);
    }

    /** 4: "NONE with a FAULT (all stays": wherever the FAULT is. */
    private static void p4AllStaysWithAFault() {
        String[] faults = {"", "x", "ground 9 6", "ground 9 6;wall 9 9;", "ground 9 6; person z at 0 0 lamp 1 walks q;",
            "ground 9 6; word y at 0 0 lamp 1 at 0 0 lamp 2;", "ground 9 6; wall 3 3; hymn q beat 1;",
            "ground 9 6; wall 2 2; person z at 3 3 lamp 2 walks wwww; word y at 0 0 lamp 2; hymn y beat 9; x"};
        for (String fault : faults) {
            HymnLamps x = busy();
            String before = Check.answers(x);
            Check.tape(x, fault);
            due("text() of '" + fault + "'", x.text(), NONE);
            String after = Check.answers(x);
            CHECK.same("text() of '" + fault + "'", after.substring(after.indexOf("ground")), before.substring(before.indexOf("ground")));
            due("the latest ACT", x.undo(), true);
            due("its lamp", x.person(2, 1), 1);
        }
        HymnLamps x = new HymnLamps();
        Check.tape(x, "ground 9 6;;");
        due("no ground yet", x.text(), NONE);
        due("no ground then", x.ground(0), 0);
    }

    /** 4: "one without a STATEMENT has FAULT 1 at its length". */
    private static void p4WithoutAStatement() {
        HymnLamps x = new HymnLamps();
        CHECK.fault(x, "", 1, 0);
        CHECK.fault(x, " ", 1, 1);
        CHECK.fault(x, "\n\n ", 1, 3);
        CHECK.fault(x, " ".repeat(1600), 1, 1600);
    }

    /** 4: "Without one nothing can be undone, there is no PICTURE": and nothing of the ground before is left. */
    private static void p4WithoutAFaultNothingStays() {
        HymnLamps x = busy();
        Check.tape(x, HEAD);
        due("text()", x.text(), 1);
        int[] want = {3, 3, 0, 0, 0, 0, 0, 0, 0};
        for (int what = 0; what < want.length; what++) {
            due("ground(" + what + ")", x.ground(what), want[what]);
        }
        due("undo()", x.undo(), false);
        due("no PICTURE", x.missed(0, NONE), NONE);
        due("nobody", x.where(0, 0), NONE);
        x = Check.on(ten(2, "s") + "word u at 0 0 lamp 2 at 8 0 lamp 2;word v at 1 0 lamp 1;word w at 2 0 lamp 1;hymn w beat 1;hymn v beat 2;hymn u beat 3;");
        x.least(0, 0, NONE);
        x.danger(0);
        Check.tape(x, PLAIN);
        due("a text of less", x.text(), 9);
        CHECK.same("the ground before", Check.answers(x), Check.answers(Check.on(PLAIN)));
        for (int lamp = 2; lamp >= 0; lamp--) {
            x.lamp(0, lamp);
            x.lamp(1, 0);
        }
        due("nobody of the ground before has a lamp", x.danger(0), NONE);
        x = busy();
        Check.tape(x, PLAIN);
        due("the same text again", x.text(), 9);
        due("undo()", x.undo(), false);
        due("no PICTURE", x.missed(2, NONE), NONE);
    }

    /** 5: "(what 0; 0 without, and ahead of any), its place (1; NONE without)". */
    private static void p5NoFault() {
        HymnLamps x = new HymnLamps();
        due("ahead of any", x.fault(0), 0);
        due("its place", x.fault(1), NONE);
        Check.tape(x, HEAD);
        x.text();
        due("without", x.fault(0), 0);
        due("its place", x.fault(1), NONE);
    }

    /** 5: "Of the latest text() or ask()": of no other call. */
    private static void p5OfTheLatest() {
        HymnLamps x = Check.on(PLAIN);
        CHECK.fault(x, "ground 3 7;", 2, 9);
        Check.tape(x, "nq");
        x.teach(0);
        x.paint();
        x.on();
        x.lamp(9, 9);
        due("others leave it", x.fault(0), 2);
        due("and its place", x.fault(1), 9);
        CHECK.asked(x, "often all", 100);
        CHECK.askedFault(x, "total ((((((((", 4, 12);
        CHECK.fault(x, HEAD, 0, NONE);
        CHECK.askedFault(x, "total", 1, 5);
        CHECK.fault(x, "", 1, 0);
        CHECK.fault(x, HEAD + "hymn q", 3, 16);
        CHECK.fault(x, HEAD + "wall 0 0;".repeat(21), 5, 11 + 20 * 9);
    }

    /** 5: "NONE for another what". */
    private static void p5AnotherWhat() {
        HymnLamps x = new HymnLamps();
        CHECK.fault(x, "x", 1, 0);
        for (int what : new int[] {2, -1, MIN, MAX}) {
            due("fault(" + what + ")", x.fault(what), NONE);
        }
    }

    /** 6: "How many there are": none of each kind. */
    private static void p6OfNobody() {
        HymnLamps x = Check.on(HEAD);
        int[] want = {3, 3, 0, 0, 0, 0, 0, 0, 0};
        for (int what = 0; what < want.length; what++) {
            due("ground(" + what + ")", x.ground(what), want[what]);
        }
        x = Check.on(ten(0, "x"));
        due("ten", x.ground(3), 10);
        due("none with a lamp", x.ground(4), 0);
        due("all with a lamp", Check.on(ten(1, "x")).ground(4), 10);
    }

    /** 6: "NONE for others". */
    private static void p6Others() {
        for (int what : new int[] {9, -1, 10, MIN, MAX}) {
            due("ground(" + what + ")", busy().ground(what), NONE);
            due("ground(" + what + ") of a new object", new HymnLamps().ground(what), NONE);
        }
    }

    /** 6: "8 ACTS that can be undone": 20 at most. */
    private static void p6ActsFromNoneToTwenty() {
        HymnLamps x = Check.on(PLAIN);
        for (int k = 0; k < 23; k++) {
            due("ACTS", x.ground(8), Math.min(20, k));
            x.lamp(2, 1 + k % 2);
        }
        x.undo();
        due("one less", x.ground(8), 19);
    }

    /** 7: "Letter k (0 .. 5) of the NAME ..: 1 .. 26; 0 behind it". */
    private static void p7Letters() {
        HymnLamps x = Check.on(HEAD + "person a at 0 0 lamp 1 walks x;person azazaz at 1 0 lamp 1 walks x;word z at 0 0 lamp 1;word zazaza at 0 0 lamp 1;");
        int[][] want = {{1, 0, 0, 0, 0, 0}, {1, 26, 1, 26, 1, 26}, {26, 0, 0, 0, 0, 0}, {26, 1, 26, 1, 26, 1}};
        for (int k = 0; k < 6; k++) {
            for (int which = 0; which < 4; which++) {
                due("letter " + k + " of " + which, x.letter(which / 2, which % 2, k), want[which][k]);
            }
        }
    }

    /** 7: "NONE when there is none such". */
    private static void p7NoneSuch() {
        HymnLamps x = Check.on(PLAIN);
        for (int other : new int[] {-1, MIN, MAX, 6}) {
            due("letter(0, 0, " + other + ")", x.letter(0, 0, other), NONE);
            due("letter(1, 0, " + other + ")", x.letter(1, 0, other), NONE);
            due("letter(0, " + other + ", 0)", x.letter(0, other, 0), NONE);
            due("letter(1, " + other + ", 0)", x.letter(1, other, 0), NONE);
            due("letter(" + other + ", 0, 0)", x.letter(other, 0, 0), NONE);
        }
        due("the last PERSON", x.letter(0, 2, 0), 3);
        due("one behind", x.letter(0, 3, 0), NONE);
        due("the last WORD", x.letter(1, 1, 0), 2);
        due("one behind", x.letter(1, 2, 0), NONE);
        due("kind 2", x.letter(2, 0, 0), NONE);
    }

    /** 8: "NONE when there is none such, or for others". */
    private static void p8Persons() {
        HymnLamps x = Check.on(PLAIN);
        int[] last = {8, 0, 1, 1, 0};
        for (int what = 0; what < 5; what++) {
            due("person(2, " + what + ")", x.person(2, what), last[what]);
            for (int person : new int[] {3, -1, 10, MIN, MAX}) {
                due("person(" + person + ", " + what + ")", x.person(person, what), NONE);
            }
        }
        for (int what : new int[] {5, 6, 7, 8, 9, -1, MIN, MAX}) {
            due("person(0, " + what + ")", x.person(0, what), NONE);
        }
        x = Check.on(ten(1, "x"));
        due("the tenth", x.person(9, 0), 9);
        due("an eleventh", x.person(10, 0), NONE);
    }

    /** 8: "10 and k: step k": the first, the last, none behind it. */
    private static void p8Steps() {
        HymnLamps x = Check.on(HEAD + "person a at 0 0 lamp 1 walks s;person b at 1 0 lamp 1 walks neswxneswxnw;");
        due("the only one", x.person(0, 10), 2);
        due("none behind it", x.person(0, 11), NONE);
        due("the twelfth", x.person(1, 21), 3);
        due("none behind it", x.person(1, 22), NONE);
        due("none ahead", x.person(1, 9), NONE);
        for (int k = 0; k < 10; k++) {
            due("step " + k, x.person(1, 10 + k), k % 5);
        }
    }

    /** 9: "how many cells it has (cell NONE), its lamp in a cell (0 none); NONE when there is none such". */
    private static void p9Cells() {
        HymnLamps x = Check.on(PLAIN);
        due("cells", x.word(0, NONE), 2);
        due("the first cell", x.word(0, 0), 0);
        due("the last cell", x.word(0, 11), 0);
        for (int cell : new int[] {12, -2, 63, 64, 65, MIN, MAX}) {
            due("word(0, " + cell + ")", x.word(0, cell), NONE);
        }
        for (int word : new int[] {2, -1, 8, MIN, MAX}) {
            due("word(" + word + ", NONE)", x.word(word, NONE), NONE);
            due("word(" + word + ", 0)", x.word(word, 0), NONE);
        }
        x = Check.on("ground 9 6;word u at 0 0 lamp 2;word v at 8 5 lamp 1;");
        due("lamp in the first cell", x.word(0, 0), 2);
        due("lamp in the last cell", x.word(1, 53), 1);
        due("none such", x.word(1, 54), NONE);
    }

    /** 10: "NONE when there is none such, or for others". */
    private static void p10Hymns() {
        HymnLamps x = Check.on(PLAIN);
        int[][] want = {{0, 1, 1, 0}, {1, 5, 0, 3}};
        for (int what = 0; what < 4; what++) {
            due("hymn(0, " + what + ")", x.hymn(0, what), want[0][what]);
            due("hymn(1, " + what + ")", x.hymn(1, what), want[1][what]);
            for (int hymn : new int[] {2, -1, 10, MIN, MAX}) {
                due("hymn(" + hymn + ", " + what + ")", x.hymn(hymn, what), NONE);
            }
        }
        for (int what : new int[] {4, -1, MIN, MAX}) {
            due("hymn(0, " + what + ")", x.hymn(0, what), NONE);
        }
    }

    /** 11: "NONE when there are none such": PERSONS, BEATS. */
    private static void p11Where() {
        HymnLamps x = Check.on(PLAIN);
        due("BEAT 0", x.where(0, 0), 0);
        due("BEAT 99", x.where(2, 99), 8);
        for (int beat : NO_BEATS) {
            due("where(0, " + beat + ")", x.where(0, beat), NONE);
        }
        for (int person : new int[] {3, -1, 10, MIN, MAX}) {
            due("where(" + person + ", 0)", x.where(person, 0), NONE);
        }
    }

    /** 12: "NONE when there are none such": BEATS, cells. */
    private static void p12Lit() {
        HymnLamps x = Check.on(PLAIN);
        due("BEAT 0, cell 0", x.lit(0, 0), 1);
        due("BEAT 99, the last cell", x.lit(99, 11), 1);
        for (int beat : NO_BEATS) {
            due("lit(" + beat + ", 0)", x.lit(beat, 0), NONE);
        }
        for (int cell : new int[] {12, -1, 53, 54, 63, 64, 76, MIN, MAX}) {
            due("lit(0, " + cell + ")", x.lit(0, cell), NONE);
        }
        due("a ground of 54 cells", Check.on("ground 9 6;person a at 8 5 lamp 2 walks x;").lit(0, 53), 2);
    }

    /** 13: "NONE without, or for others". */
    private static void p13ClashOthers() {
        HymnLamps x = Check.on(PLAIN);
        for (int what : new int[] {3, -1, MIN, MAX}) {
            due("clash(" + what + ")", x.clash(what), NONE);
        }
        HymnLamps apart = Check.on(HEAD + "person a at 0 0 lamp 1 walks x;person b at 1 0 lamp 1 walks x;");
        for (int what = 0; what < 3; what++) {
            due("without: clash(" + what + ")", apart.clash(what), NONE);
            due("nobody: clash(" + what + ")", Check.on(HEAD).clash(what), NONE);
        }
        x = Check.on(ten(1, "x").replace("at 0 1 lamp 1 walks x", "at 0 1 lamp 1 walks n"));
        due("a and the tenth", x.clash(0) * 100 + x.clash(1) * 10 + x.clash(2), 109);
    }

    /** 14: "In how many BEATS there are CLASHES": none, all but 0; two in one BEAT count once. */
    private static void p14Clashes() {
        due("none", Check.on(HEAD + "person a at 0 0 lamp 1 walks x;").clashes(), 0);
        HymnLamps x = Check.on(HEAD + "person a at 0 0 lamp 1 walks ew;person b at 1 0 lamp 1 walks we;"
                + "person c at 0 2 lamp 1 walks ew;person d at 1 2 lamp 1 walks we;");
        due("in each from 1 on", x.clashes(), 99);
    }

    /** 15: "NONE when he never does, or there is none such". */
    private static void p15Still() {
        HymnLamps x = Check.on(PLAIN);
        due("in BEAT 1", x.still(2), 1);
        for (int person : new int[] {3, -1, 10, MIN, MAX}) {
            due("still(" + person + ")", x.still(person), NONE);
        }
        due("never", Check.on(HEAD + "person a at 0 0 lamp 1 walks sn;").still(0), NONE);
    }

    /** 16: "NONE when there is none, or no such BEAT". */
    private static void p16Read() {
        HymnLamps x = Check.on(HEAD + "person a at 0 0 lamp 1 walks x;word u at 0 0 lamp 1;word v at 0 2 lamp 1;");
        due("BEAT 0", x.read(0, false), 0);
        due("BEAT 99", x.read(99, false), 0);
        due("BEAT 0 from BELOW", x.read(0, true), 1);
        due("BEAT 99 from BELOW", x.read(99, true), 1);
        for (int beat : NO_BEATS) {
            due("read(" + beat + ", false)", x.read(beat, false), NONE);
            due("read(" + beat + ", true)", x.read(beat, true), NONE);
        }
        x.lamp(0, 2);
        due("none is", x.read(0, false), NONE);
        due("none is from BELOW", x.read(0, true), NONE);
        due("without WORDS", Check.on(HEAD).read(0, false), NONE);
    }

    /** 17: "NONE when there are none such": BEATS, WORDS. */
    private static void p17Far() {
        HymnLamps x = Check.on(PLAIN);
        due("BEAT 0", x.far(0, 0, false), 4);
        due("BEAT 99 and the last WORD", x.far(99, 1, true), 3);
        for (int beat : NO_BEATS) {
            due("far(" + beat + ", 0, false)", x.far(beat, 0, false), NONE);
            due("far(" + beat + ", 0, true)", x.far(beat, 0, true), NONE);
        }
        for (int word : new int[] {2, -1, 8, MIN, MAX}) {
            due("far(0, " + word + ", false)", x.far(0, word, false), NONE);
        }
    }

    /** 18: "NONE when there is no such BEAT, .. or for others". */
    private static void p18Nearest() {
        HymnLamps x = Check.on(PLAIN);
        int[] want = {1, 3, 1, 2};
        for (int what = 0; what < 4; what++) {
            due("nearest(99, " + what + ")", x.nearest(99, what), want[what]);
            for (int beat : NO_BEATS) {
                due("nearest(" + beat + ", " + what + ")", x.nearest(beat, what), NONE);
            }
        }
        for (int what : new int[] {4, -1, MIN, MAX}) {
            due("nearest(0, " + what + ")", x.nearest(0, what), NONE);
        }
    }

    /** 18: "NONE when there is .. no WORD (but 3)". */
    private static void p18WithoutWords() {
        HymnLamps x = Check.on(HEAD + "person a at 0 0 lamp 1 walks x;person b at 1 0 lamp 2 walks x;person c at 2 0 lamp 0 walks x;");
        for (int what = 0; what < 3; what++) {
            due("nearest(0, " + what + ")", x.nearest(0, what), NONE);
        }
        due("nearest(0, 3)", x.nearest(0, 3), 2);
        due("nearest(0, 4)", x.nearest(0, 4), NONE);
        due("nearest(100, 3)", x.nearest(100, 3), NONE);
        due("nobody", Check.on(HEAD).nearest(0, 3), 0);
    }

    /** 19: "The k-th BEAT that is SAID ..; how many (k NONE). NONE when there is none such". */
    private static void p19Said() {
        HymnLamps x = Check.on(HEAD + "person a at 0 0 lamp 1 walks ew;word u at 2 0 lamp 1;word v at 1 0 lamp 1;");
        due("how many", x.said(NONE), 50);
        due("the first", x.said(0), 101);
        due("the second", x.said(1), 301);
        due("the last", x.said(49), 9901);
        for (int k : new int[] {50, -2, MIN, MAX}) {
            due("said(" + k + ")", x.said(k), NONE);
        }
        due("nothing is said", Check.on(HEAD).said(0), NONE);
        due("none", Check.on(HEAD).said(NONE), 0);
    }

    /** 20: "(not below it); NONE when there are none such". */
    private static void p20Between() {
        HymnLamps x = Check.on(HEAD + "person a at 0 0 lamp 1 walks x;word u at 0 0 lamp 1;");
        due("all between", x.between(0, 99), 98);
        due("the same", x.between(0, 0), 0);
        due("the same", x.between(99, 99), 0);
        due("below it", x.between(1, 0), NONE);
        due("below it", x.between(99, 98), NONE);
        for (int beat : NO_BEATS) {
            due("between(" + beat + ", 99)", x.between(beat, 99), NONE);
            due("between(0, " + beat + ")", x.between(0, beat), NONE);
            due("between(" + beat + ", " + beat + ")", x.between(beat, beat), NONE);
        }
    }

    /** 20: "behind one BEAT and ahead of another one". */
    private static void p20BothEndsAreOut() {
        HymnLamps x = Check.on(HEAD + "person a at 0 0 lamp 1 walks x;word u at 0 0 lamp 1;");
        due("next to each other", x.between(5, 6), 0);
        due("one between", x.between(5, 7), 1);
        due("two between", x.between(5, 8), 2);
        due("one between at the start", x.between(0, 2), 1);
        due("one between at the end", x.between(97, 99), 1);
    }

    /** 21: "NONE .. when there is no such BEAT". */
    private static void p21Danger() {
        HymnLamps x = Check.on(PLAIN);
        due("BEAT 0", x.danger(0), 0);
        due("BEAT 99", x.danger(99), 0);
        for (int beat : NO_BEATS) {
            due("danger(" + beat + ")", x.danger(beat), NONE);
        }
    }

    /** 21: "NONE without lamps or WORDS". */
    private static void p21WithoutLampsOrWords() {
        due("without lamps", Check.on(HEAD + "person a at 0 0 lamp 0 walks x;word u at 0 0 lamp 1;").danger(0), NONE);
        due("without PERSONS", Check.on(HEAD + "word u at 0 0 lamp 1;").danger(0), NONE);
        due("without WORDS", Check.on(HEAD + "person a at 0 0 lamp 1 walks x;").danger(0), NONE);
        due("with one of both", Check.on(HEAD + "person a at 0 0 lamp 1 walks x;word u at 0 0 lamp 1;").danger(0), 0);
    }

    /** 22: "steps together (k NONE), the cell of the k-th PERSON with a lamp. NONE when there is none such". */
    private static void p22Least() {
        HymnLamps x = Check.on(PLAIN);
        due("together", x.least(0, 0, NONE), 2);
        due("BEAT 99", x.least(99, 0, NONE), 6);
        due("the first with a lamp", x.least(0, 0, 0), 1);
        due("the last with a lamp", x.least(0, 0, 1), 2);
        for (int k : new int[] {2, -2, 8, MIN, MAX}) {
            due("least(0, 0, " + k + ")", x.least(0, 0, k), NONE);
        }
        for (int beat : NO_BEATS) {
            due("least(" + beat + ", 0, NONE)", x.least(beat, 0, NONE), NONE);
        }
        for (int word : new int[] {1, 2, -1, 8, MIN, MAX}) {
            due("least(0, " + word + ", NONE)", x.least(0, word, NONE), NONE);
        }
    }

    /** 23: "NONE when there is none such". */
    private static void p23Soon() {
        HymnLamps x = Check.on(PLAIN);
        due("BEAT 0", x.soon(0, 0), 1);
        due("BEAT 99", x.soon(99, 0), 4);
        for (int beat : NO_BEATS) {
            due("soon(" + beat + ", 0)", x.soon(beat, 0), NONE);
        }
        for (int word : new int[] {1, 2, -1, 8, MIN, MAX}) {
            due("soon(0, " + word + ")", x.soon(0, word), NONE);
        }
    }

    /** 24: "Step k (0 and on) ..; NONE when there is none such, or he has no lamp". */
    private static void p24Way() {
        HymnLamps x = Check.on(PLAIN);
        due("the first", x.way(99, 0, 0, 0), 0);
        due("the last", x.way(99, 0, 0, 3), 3);
        for (int k : new int[] {4, -1, 54, 1000, MIN, MAX}) {
            due("way(99, 0, 0, " + k + ")", x.way(99, 0, 0, k), NONE);
        }
        for (int beat : NO_BEATS) {
            due("way(" + beat + ", 0, 0, 0)", x.way(beat, 0, 0, 0), NONE);
        }
        for (int word : new int[] {1, 2, -1, 8, MIN, MAX}) {
            due("way(0, " + word + ", 0, 0)", x.way(0, word, 0, 0), NONE);
        }
        for (int person : new int[] {2, 3, -1, 10, MIN, MAX}) {
            due("way(0, 0, " + person + ", 0)", x.way(0, 0, person, 0), NONE);
        }
    }

    /** 25: "NONE when it can't be reached .., or there are none such". */
    private static void p25Steps() {
        HymnLamps x = Check.on(PLAIN);
        due("next to it", x.steps(0, 1), 1);
        due("from the first to the last", x.steps(0, 11), 5);
        due("to a wall", x.steps(0, 5), NONE);
        due("from a wall", x.steps(5, 0), NONE);
        for (int cell : new int[] {12, -1, 53, 54, 63, 64, 69, MIN, MAX}) {
            due("steps(0, " + cell + ")", x.steps(0, cell), NONE);
            due("steps(" + cell + ", 0)", x.steps(cell, 0), NONE);
            due("steps(" + cell + ", " + cell + ")", x.steps(cell, cell), NONE);
        }
        x = Check.on(HEAD + "wall 0 1;wall 1 0;");
        due("from behind walls", x.steps(0, 8), NONE);
        due("to behind walls", x.steps(8, 0), NONE);
        due("behind walls to itself", x.steps(0, 0), 0);
    }

    /** 25: "(0 to itself)", "(a cell with a wall not even from itself)". */
    private static void p25ToItself() {
        HymnLamps x = Check.on(PLAIN);
        for (int cell = 0; cell < 12; cell++) {
            due("steps(" + cell + ", " + cell + ")", x.steps(cell, cell), cell == 5 ? NONE : 0);
        }
    }

    /** 25: a way through all of a ground that walls make one long row. */
    private static void p25LongestWay() {
        HymnLamps x = Check.on("ground 9 6;wall 1 0;wall 1 1;wall 1 2;wall 1 3;wall 1 4;wall 3 5;wall 3 4;wall 3 3;wall 3 2;wall 3 1;"
                + "wall 5 0;wall 5 1;wall 5 2;wall 5 3;wall 5 4;wall 7 5;wall 7 4;wall 7 3;wall 7 2;wall 7 1;");
        due("there", x.steps(0, 53), 33);
        due("and back", x.steps(53, 0), 33);
    }

    /** 26: "a byte (0 .. 2) for each cell: true". */
    private static void p26Paint() {
        HymnLamps x = Check.on("ground 9 6;person a at 8 5 lamp 2 walks n;");
        int[] lights = new int[54];
        lights[53] = 2;
        Check.tape(x, lights);
        due("paint()", x.paint(), true);
        due("the tape goes", x.end(1), false);
        due("the last cell counts", x.missed(1, NONE), 1);
        lights[53] = 1;
        Check.tape(x, lights);
        due("another one", x.paint(), true);
        due("takes its place", x.missed(1, NONE), 0);
        lights[0] = 2;
        lights[53] = 2;
        Check.tape(x, lights);
        due("a third one", x.paint(), true);
        due("with the first cell", x.missed(1, NONE), 0);
    }

    /** 26: "false, doing nothing else, when it is none such": the tape goes, THE PICTURE stays. */
    private static void p26RefusedPaint() {
        int[][] none = {{}, {0}, {0, 2, 0, 0, 1, 0, 0, 0, 0, 0, 0}, {0, 2, 0, 0, 1, 0, 0, 0, 0, 0, 0, 0, 0},
            {3, 2, 0, 0, 1, 0, 0, 0, 0, 0, 0, 0}, {0, 2, 0, 0, 1, 0, 0, 0, 0, 0, 0, 3}, {0, 2, 0, 0, 255, 0, 0, 0, 0, 0, 0, 0},
            {0, 2, 0, 0, 128, 0, 0, 0, 0, 0, 0, 0}, {0, 2, 0, 0, '1', 0, 0, 0, 0, 0, 0, 0}, {2, 2, 2, 2, 2, 2, 2, 2, 2, 2, 2, 4}};
        for (int[] bytes : none) {
            refused("paint() of " + bytes.length + " bytes", x -> {
                Check.tape(x, bytes);
                boolean refused = !x.paint();
                return refused && !x.end(1);
            });
        }
        HymnLamps x = Check.on(PLAIN);
        Check.tape(x, 3, 2, 0, 0, 1, 0, 0, 0, 0, 0, 0, 0);
        due("none yet", x.paint(), false);
        due("none then", x.missed(2, NONE), NONE);
    }

    /** 26: "or there is no ground": the tape goes, too; an empty one is none. */
    private static void p26PaintWithoutAGround() {
        HymnLamps x = new HymnLamps();
        due("an empty tape", x.paint(), false);
        x.feed(0, 0, 0, 0, 0);
        due("nine cells", x.end(9) && x.paint(), false);
        due("the tape goes", x.end(1), false);
        due("no PICTURE", x.missed(0, NONE), NONE);
    }

    /** 27: "how many (k NONE), the k-th ..: NONE when there is none such, no such BEAT". */
    private static void p27Missed() {
        HymnLamps x = busy();
        due("how many", x.missed(2, NONE), 1);
        due("the first", x.missed(2, 0), 1);
        for (int k : new int[] {1, -2, MIN, MAX}) {
            due("missed(2, " + k + ")", x.missed(2, k), NONE);
        }
        due("BEAT 0", x.missed(0, NONE), 0);
        due("BEAT 99", x.missed(99, NONE), 0);
        for (int beat : NO_BEATS) {
            due("missed(" + beat + ", NONE)", x.missed(beat, NONE), NONE);
            due("missed(" + beat + ", 0)", x.missed(beat, 0), NONE);
        }
        x = Check.on("ground 9 3;person o at 0 2 lamp 0 walks x;person a at 0 1 lamp 1 walks nsnsnsnsnse;");
        int[] lights = new int[27];
        lights[16] = 1;
        Check.tape(x, lights);
        x.paint();
        due("PERSON and BEAT", x.missed(88, 7), 188);
        due("none behind", x.missed(88, 8), NONE);
    }

    /** 27: "or no PICTURE". */
    private static void p27WithoutAPicture() {
        HymnLamps x = Check.on(PLAIN);
        for (int beat = 0; beat < 100; beat += 33) {
            due("how many", x.missed(beat, NONE), NONE);
            due("the first", x.missed(beat, 0), NONE);
        }
        due("of a new object", new HymnLamps().missed(1, NONE), NONE);
    }

    /** 28: "How many sorts .. (person NONE), how many are ALIKE a PERSON (he among them); NONE when there is none such". */
    private static void p28Alike() {
        HymnLamps x = Check.on(PLAIN);
        due("sorts", x.alike(NONE), 3);
        due("he alone", x.alike(2), 1);
        for (int person : new int[] {3, -2, 10, MIN, MAX}) {
            due("alike(" + person + ")", x.alike(person), NONE);
        }
        due("nobody", Check.on(HEAD).alike(NONE), 0);
        due("nobody's", Check.on(HEAD).alike(0), NONE);
        x = Check.on(ten(1, "ns"));
        due("ten of one sort", x.alike(NONE), 1);
        due("all ten", x.alike(9), 10);
    }

    /** 29: "A PERSON is taught the tape's STEPS (it goes": 1 to 12; from then on he goes by them in all BEATS. */
    private static void p29Teach() {
        HymnLamps x = Check.on(PLAIN);
        Check.tape(x, "s");
        due("one", x.teach(2), true);
        due("the tape goes", x.end(1), false);
        due("how many", x.person(2, 2), 1);
        Check.tape(x, "nneesswwxxne");
        due("twelve", x.teach(2), true);
        due("how many", x.person(2, 2), 12);
        due("BEAT 1", x.where(2, 1), 4);
        due("BEAT 4", x.where(2, 4), 2);
        due("BEAT 12, by the wall", x.where(2, 12), 4);
        due("BEAT 13 is the first again", x.where(2, 13), 0);
        due("told he stays", x.person(2, 0), 8);
        due("ACTS", x.ground(8), 2);
        Check.tape(x, "nneesswwxxne");
        due("the same ones", x.teach(2), true);
        due("are an ACT", x.ground(8), 3);
    }

    /** 29: "letters alone", "false, doing nothing else, when there is none such, or they can't be". */
    private static void p29RefusedTeach() {
        String[] none = {"", "q", "neswq", "qnesw", "n ", " n", "n\n", "N", "n;", "n\0", "n\u00e9", "neswxneswxnes", "1", "ne sw"};
        for (String steps : none) {
            refused("teach(0) of '" + steps + "'", x -> {
                Check.tape(x, steps);
                boolean refused = !x.teach(0);
                return refused && !x.end(1);
            });
        }
        for (int person : new int[] {3, -1, 10, MIN, MAX}) {
            refused("teach(" + person + ")", x -> {
                Check.tape(x, "nesw");
                boolean refused = !x.teach(person);
                return refused && !x.end(1);
            });
        }
    }

    /** 30: "A PERSON's lamp is another one (0 .. 2): true". */
    private static void p30Lamp() {
        HymnLamps x = Check.on(PLAIN);
        for (int lamp : new int[] {1, 2, 0, 2, 1, 0}) {
            due("lamp(2, " + lamp + ")", x.lamp(2, lamp), true);
            due("it is", x.person(2, 1), lamp);
            due("lit", x.lit(99, 8), lamp);
        }
        due("ACTS", x.ground(8), 6);
    }

    /** 30: "false when there is none such, or it is so already". */
    private static void p30RefusedLamp() {
        refused("lamp(0, 1)", x -> !x.lamp(0, 1));
        refused("lamp(1, 2)", x -> !x.lamp(1, 2));
        refused("lamp(2, 0)", x -> !x.lamp(2, 0));
        for (int other : new int[] {3, -1, MIN, MAX}) {
            refused("lamp(0, " + other + ")", x -> !x.lamp(0, other));
            refused("lamp(" + other + ", 0)", x -> !x.lamp(other, 0));
            refused("lamp(" + other + ", 1)", x -> !x.lamp(other, 1));
        }
    }

    /** 31: "behind it x, until there are as many STEPS as SOON (none, if there are)". */
    private static void p31LearnUntilSoon() {
        HymnLamps x = Check.on("ground 5 3;person a at 0 0 lamp 1 walks n;person b at 4 0 lamp 2 walks n;"
                + "word u at 1 0 lamp 1 at 4 2 lamp 2;word v at 2 0 lamp 1 at 4 2 lamp 2;word w at 0 0 lamp 1 at 4 1 lamp 2;");
        due("one step and one x", x.learn(0, 0), 2);
        due("e", x.person(0, 10), 1);
        due("x", x.person(0, 11), 4);
        due("as many as SOON", x.learn(0, 1), 2);
        due("e", x.person(0, 10), 1);
        due("e, no x", x.person(0, 11), 1);
        due("x alone", x.learn(0, 2), 1);
        due("x", x.person(0, 10), 4);
        due("ACTS", x.ground(8), 3);
        x = Check.on("ground 4 3;person a at 0 0 lamp 1 walks n;person b at 1 2 lamp 1 walks n;word u at 0 0 lamp 1 at 3 0 lamp 1;");
        due("more than SOON: none is left out", x.learn(1, 0), 4);
        due("less than SOON", x.learn(0, 0), 3);
        Check.tape(x, "nnee");
        due("teach(0)", x.teach(0), true);
        due("STEPS that were learnt are like those that were taught", x.alike(1), 2);
    }

    /** 31: "(12 at most)", "NONE, doing nothing, when .. there would be .. more". */
    private static void p31LearnTwelve() {
        String text = "ground 9 6;person a at 0 0 lamp 1 walks n;person b at 8 5 lamp 2 walks n;word u at 8 4 lamp 1 at 8 5 lamp 2;"
                + "word v at 8 5 lamp 1 at 8 4 lamp 2;word w at 0 0 lamp 1 at 0 1 lamp 2;word y at 0 1 lamp 1 at 0 0 lamp 2;";
        HymnLamps x = Check.on(text);
        due("twelve", x.learn(0, 0), 12);
        due("twelve times x", x.learn(1, 0), 12);
        due("the twelfth", x.person(1, 21), 4);
        due("thirteen", x.learn(0, 1), NONE);
        due("twelve times x by SOON", x.learn(0, 2), 12);
        due("thirteen by SOON", x.learn(0, 3), NONE);
        due("ACTS", x.ground(8), 3);
        due("he keeps what he has", x.person(0, 21), 4);
    }

    /** 31: "NONE, doing nothing, when there is none such, he has no lamp, or there would be none, or more". */
    private static void p31RefusedLearn() {
        refused("learn of one without a lamp", x -> x.learn(2, 0) == NONE);
        refused("learn, lamps do not agree", x -> x.learn(0, 1) == NONE);
        for (int other : new int[] {3, -1, 10, MIN, MAX}) {
            refused("learn(" + other + ", 0)", x -> x.learn(other, 0) == NONE);
            refused("learn(0, " + other + ")", x -> x.learn(0, other) == NONE);
        }
        HymnLamps x = Check.on(HEAD + "person a at 0 0 lamp 1 walks n;word u at 0 0 lamp 1;word v at 1 0 lamp 1;");
        due("there would be none", x.learn(0, 0), NONE);
        due("no ACT", x.ground(8), 0);
        due("one", x.learn(0, 1), 1);
        due("from BEAT 0, wherever he goes", x.learn(0, 1), 1);
        due("an ACT each", x.ground(8), 2);
    }

    /** 32: "The latest ACT is undone: true": of each kind, in their order. */
    private static void p32UndoEachKind() {
        HymnLamps x = Check.on(PLAIN);
        x.lamp(0, 2);
        String afterOne = Check.answers(x);
        x.lamp(0, 1);
        Check.tape(x, "ss");
        x.teach(1);
        due("learn", x.learn(0, 0), 1);
        due("undo learn", x.undo(), true);
        due("as told", x.person(0, 2) * 100 + x.person(0, 10) * 10 + x.person(0, 11), 212);
        due("where a is", x.where(0, 4), 6);
        due("b keeps his", x.person(1, 2), 2);
        due("undo teach", x.undo(), true);
        due("one step again", x.person(1, 2), 1);
        due("where b is", x.where(1, 3), 0);
        due("undo lamp", x.undo(), true);
        CHECK.same("undo lamp", Check.answers(x), afterOne);
        due("undo lamp", x.undo(), true);
        due("told lamp", x.person(0, 1), 1);
        due("no ACT is left", x.ground(8), 0);
    }

    /** 32: "false when none can be": new, behind text(), behind on(), all undone. */
    private static void p32RefusedUndo() {
        due("a new object", new HymnLamps().undo(), false);
        HymnLamps x = Check.on(PLAIN);
        String before = Check.answers(x);
        due("a new ground", x.undo(), false);
        CHECK.same("undo()", Check.answers(x), before);
        x.lamp(0, 2);
        due("one", x.undo(), true);
        due("no more", x.undo(), false);
        due("no more again", x.undo(), false);
        CHECK.same("undo()", Check.answers(x), before);
    }

    /** 33: "NOTHING .. (the tape goes, nothing else is done, fault() stays) without a ground". */
    private static void p33WithoutAGround() {
        for (String question : new String[] {"often all", "x", "", "total ((((((("}) {
            HymnLamps x = new HymnLamps();
            Check.tape(x, question);
            due("ask()", x.ask(), HymnLamps.NOTHING);
            due("the tape goes", x.end(1), false);
            due("no FAULT", x.fault(0), 0);
            due("no place", x.fault(1), NONE);
            CHECK.fault(x, "ground 2", 2, 7);
            Check.tape(x, question);
            due("ask()", x.ask(), HymnLamps.NOTHING);
            due("the tape goes", x.end(1), false);
            due("fault() stays", x.fault(0), 2);
            due("its place, too", x.fault(1), 7);
        }
    }

    /** 33: "NOTHING with a FAULT": all but fault() stays. */
    private static void p33WithAFault() {
        for (String question : new String[] {"", "x", "total 5 5", "first [[[[[[["}) {
            HymnLamps x = busy();
            String before = Check.answers(x);
            Check.tape(x, question);
            due("ask()", x.ask(), HymnLamps.NOTHING);
            due("the tape goes", x.end(1), false);
            due("a FAULT", x.fault(0) > 0, true);
            String after = Check.answers(x);
            CHECK.same("ask()", after.substring(after.indexOf("ground")), before.substring(before.indexOf("ground")));
        }
    }

    /** 33: "of all BEATS 0 .. 99 as all is now": a QUESTION changes nothing; ACTS change its answer. */
    private static void p33ChangesNothing() {
        HymnLamps x = busy();
        String before = Check.answers(x);
        CHECK.asked(x, "often read=1", 1);
        CHECK.same("ask()", Check.answers(x), before);
        x.lamp(0, 2);
        CHECK.asked(x, "often read=1", 0);
        x.undo();
        CHECK.asked(x, "often read=1", 1);
    }

    /** 34: "AN IMAGE is written: how many bytes". */
    private static void p34Image() {
        HymnLamps x = Check.on(PLAIN);
        due("image()", x.image(), 11);
        due("again", x.image(), 11);
        due("its sum", x.octet(10), 156);
        Check.tape(x, "nnnnnnnnnnnn");
        x.teach(2);
        due("eleven more", x.image(), 22);
        due("none of the latest", x.octet(22), NONE);
        x.undo();
        due("as before", x.image(), 11);
        due("what was behind is gone", x.octet(11), NONE);
    }

    /** 34 and IV: of nobody it is the sum alone, 109. */
    private static void p34ImageOfNobody() {
        for (HymnLamps x : new HymnLamps[] {new HymnLamps(), Check.on(HEAD)}) {
            due("image()", x.image(), 1);
            due("octet(0)", x.octet(0), 109);
            due("octet(1)", x.octet(1), NONE);
        }
    }

    /** 34: ten PERSONS of twelve STEPS. */
    private static void p34LongestImage() {
        HymnLamps x = Check.on(ten(2, "neswxneswxnw"));
        due("image()", x.image(), 141);
        int sum = 109;
        for (int k = 0; k < 140; k++) {
            sum = (3 * sum + x.octet(k)) % 251;
        }
        due("its sum", x.octet(140), sum);
        due("the last step", x.octet(139), 3);
        due("none behind", x.octet(141), NONE);
    }

    /** 35: "NONE when there is none such". */
    private static void p35Octet() {
        HymnLamps x = Check.on(PLAIN);
        due("ahead of any image()", x.octet(0), NONE);
        x.image();
        due("the first", x.octet(0), 1);
        due("the last", x.octet(10), 156);
        for (int k : new int[] {11, -1, 141, MIN, MAX}) {
            due("octet(" + k + ")", x.octet(k), NONE);
        }
    }

    /** 35: "of the latest image()": ACTS, on() and text() do not change it. */
    private static void p35LatestImage() {
        HymnLamps x = Check.on(HEAD + "person a at 0 0 lamp 1 walks n;");
        x.image();
        x.lamp(0, 2);
        due("ahead of another one", x.octet(0), 1);
        Check.tape(x, 1, 1, 0, 194);
        due("on()", x.on(), true);
        Check.tape(x, PLAIN);
        x.text();
        due("its sum", x.octet(3), 194);
        due("no more", x.octet(4), NONE);
    }

    private static boolean boarded(HymnLamps x, int... bytes) {
        Check.image(x, bytes);
        boolean on = x.on();
        due("the tape goes", x.end(1), false);
        return on;
    }

    /** 36: "true, lamps and STEPS are as it tells, nothing can be undone". */
    private static void p36On() {
        HymnLamps x = busy();
        due("the least and the most", boarded(x, 2, 1, 0, 0, 12, 0, 1, 2, 3, 4, 4, 3, 2, 1, 0, 0, 1, 1, 1, 4), true);
        due("lamp 2", x.person(0, 1), 2);
        due("lamp 0", x.person(1, 1), 0);
        due("lamp 1", x.person(2, 1), 1);
        due("one step", x.person(0, 2), 1);
        due("twelve steps", x.person(1, 2), 12);
        due("the twelfth", x.person(1, 21), 1);
        due("the only one of the third", x.person(2, 10), 4);
        for (int k = 0; k < 12; k++) {
            due("step " + k + " of the second", x.person(1, 10 + k), new int[] {0, 1, 2, 3, 4, 4, 3, 2, 1, 0, 0, 1}[k]);
        }
        due("told he stays", x.person(1, 0), 3);
        due("but goes by his new STEPS", x.where(1, 3), 7);
        due("and so do all", x.where(0, 99) * 100 + x.where(2, 99), 8);
        due("nothing can be undone", x.undo(), false);
        due("no ACTS", x.ground(8), 0);
        due("walls, WORDS, HYMNS stay", x.ground(2) * 100 + x.ground(5) * 10 + x.ground(6), 122);
        due("THE PICTURE stays", x.missed(0, NONE), 0);
        x = busy();
        int size = x.image();
        int[] same = new int[size];
        for (int k = 0; k < size; k++) {
            same[k] = x.octet(k);
        }
        Check.tape(x, same);
        due("its own image", x.on(), true);
        due("nothing can be undone then", x.undo(), false);
        due("lamp", x.person(0, 1), 1);
    }

    /** 36 and 28: STEPS that on() brings are like those that were told. */
    private static void p36OnAndAlike() {
        HymnLamps x = Check.on(HEAD + "person a at 0 0 lamp 1 walks n;person b at 1 0 lamp 1 walks exs;person c at 2 0 lamp 1 walks w;");
        due("on()", boarded(x, 2, 3, 1, 4, 2, 1, 3, 1, 4, 2, 2, 6, 1, 4, 2, 1, 4, 2), true);
        due("ALIKE all", x.alike(0), 3);
        due("one sort", x.alike(NONE), 1);
    }

    /** 36: "false when it is none .. (all stays)": the tape goes. */
    private static void p36RefusedOn() {
        int[][] none = {{}, {1, 1, 0}, {1, 1, 0, 2, 1, 1}, {1, 1, 0, 2, 1, 1, 0, 1}, {1, 1, 0, 2, 1, 1, 0, 1, 4, 0}, {1, 1, 0, 2, 1, 1, 0, 1, 4, 0, 1, 0},
            {3, 1, 0, 2, 1, 1, 0, 1, 4}, {1, 1, 0, 2, 1, 1, 3, 1, 4}, {1, 1, 5, 2, 1, 1, 0, 1, 4}, {1, 1, 0, 2, 1, 1, 0, 1, 5},
            {1, 0, 2, 1, 1, 0, 1, 4}, {1, 1, 0, 2, 1, 1, 0, 0}, {1, 1, 0, 2, 1, 1, 0, 2, 4}, {1, 1, 0, 2, 2, 1, 0, 1, 4},
            {1, 13, 0, 0, 0, 0, 0, 0, 0, 0, 0, 0, 0, 0, 0, 2, 1, 1, 0, 1, 4}, {1, 255, 0, 2, 1, 1, 0, 1, 4}, {255, 1, 0, 2, 1, 1, 0, 1, 4}};
        for (int[] bytes : none) {
            refused("on() of " + Arrays.toString(bytes), x -> !boarded(x, bytes));
        }
        int[] good = {1, 1, 0, 2, 1, 1, 0, 1, 4};
        due("on() of a good one", boarded(busy(), good), true);
        refused("on() without its sum", x -> {
            Check.tape(x, good);
            return !x.on() && !x.end(1);
        });
        refused("on() of nothing", x -> !x.on());
        for (int wrong = 1; wrong < 256; wrong += 5) {
            HymnLamps x = busy();
            int sum = 109;
            int[] all = Arrays.copyOf(good, 10);
            for (int byteThere : good) {
                sum = (3 * sum + byteThere) % 251;
            }
            all[9] = sum + wrong & 255;
            Check.tape(x, all);
            due("on() with another sum", x.on(), false);
            due("ACTS stay", x.ground(8), 2);
        }
    }

    /** 36: "or there is no ground". */
    private static void p36OnWithoutAGround() {
        HymnLamps x = new HymnLamps();
        due("of nobody", boarded(x), false);
        due("of somebody", boarded(x, 1, 1, 0), false);
        due("of nothing", x.on(), false);
        due("nobody", x.ground(3), 0);
    }

    /** 36: a ground of nobody has just one IMAGE. */
    private static void p36OnOfNobody() {
        HymnLamps x = Check.on(HEAD);
        due("109", boarded(x), true);
        Check.tape(x, 108);
        due("108", x.on(), false);
        Check.tape(x, 109, 109);
        due("two bytes", x.on(), false);
        due("nothing", x.on(), false);
    }

    /** 36 and IV: a sum of 128 and more is a byte like others. */
    private static void p36BytesFrom128On() {
        HymnLamps x = Check.on(HEAD + "person a at 0 0 lamp 1 walks n;");
        x.image();
        due("its sum", x.octet(3), 194);
        x.lamp(0, 2);
        Check.tape(x, 1, 1, 0, 194);
        due("on()", x.on(), true);
        due("its lamp", x.person(0, 1), 1);
    }

    /** 4, 26, 29, 33, 36: "(it goes)": what comes next finds an empty tape, and feed begins anew. */
    private static void theTapeGoes() {
        for (int call = 0; call < 6; call++) {
            for (HymnLamps x : new HymnLamps[] {busy(), new HymnLamps()}) {
                Check.tape(x, "nesw");
                takeTape(x, call);
                due("feed behind taker " + call, x.feed(0, 0, 0, 0, 0), 20);
            }
        }
    }

    private static void takeTape(HymnLamps x, int call) {
        switch (call) {
            case 0: x.text(); break;
            case 1: x.paint(); break;
            case 2: x.teach(0); break;
            case 3: x.teach(-1); break;
            case 4: x.ask(); break;
            default: x.on();
        }
    }

    /** 2 and 3: no other call takes of the tape. */
    private static void othersLeaveTheTape() {
        HymnLamps x = busy();
        Check.tape(x, "nesw");
        Check.answers(x);
        x.lamp(0, 2);
        x.learn(0, 0);
        x.learn(1, 0);
        x.undo();
        x.image();
        x.fault(0);
        due("four bytes are there", x.feed(0, 0, 0, 0, 0), 24);
        due("end(4)", x.end(4), true);
        due("teach(0)", x.teach(0), true);
        due("how many", x.person(0, 2), 4);
    }
}
