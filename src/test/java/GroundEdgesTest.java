/** Term I: each sentence that names a boundary case has a test of its own, which quotes it. */
public final class GroundEdgesTest {
    private static final int NONE = HymnLamps.NONE;
    private static final Check CHECK = new Check();
    private static final String HEAD = "ground 3 3;";
    private static final String PERSON = "person a at 0 0 lamp 1 walks x;";
    private static final String WORD = "word w at 0 0 lamp 1;";
    private static final String[] OWN = {"ground", "wall", "person", "at", "lamp", "walks", "word", "hymn", "beat"};

    public static void main(String[] args) {
        statements();
        wideAndHigh();
        groundFirstAndAlone();
        wallWithSomebody();
        wallTwice();
        twentyWalls();
        personsCell();
        personsLamp();
        tenPersons();
        wordsLamps();
        eightCellsOfAWord();
        unlikeCellsOfAWord();
        eightWords();
        hymnsWord();
        hymnsBeat();
        tenHymns();
        cells();
        cellsNumber();
        steps();
        names();
        ownWords();
        unlikeNames();
        numbers();
        blanks();
        blanksSideBySide();
        firstAlongTheText();
        wordsWhole();
        wholeStatements();
        endsTooSoon();
        kindsAtTheirFirstByte();
        CHECK.done();
    }

    private static void stands(String text, int statements) {
        HymnLamps x = new HymnLamps();
        Check.tape(x, text);
        CHECK.due("text() of '" + text + "'", x.text(), statements);
        CHECK.due("fault(0) of '" + text + "'", x.fault(0), 0);
        CHECK.due("fault(1) of '" + text + "'", x.fault(1), NONE);
    }

    /** The FAULT is due where the text has its ^, which is left out. */
    private static void faulty(int fault, String marked) {
        int place = marked.indexOf('^');
        CHECK.fault(new HymnLamps(), marked.substring(0, place) + marked.substring(place + 1), fault, place);
    }

    private static String walls(int count) {
        return "wall 2 2;".repeat(count);
    }

    private static String persons(int count) {
        StringBuilder s = new StringBuilder();
        for (int k = 0; k < count; k++) {
            s.append("person p").append((char) ('a' + k)).append(" at ").append(k % 9).append(' ').append(k / 9)
                    .append(" lamp 1 walks x;");
        }
        return s.toString();
    }

    private static String words(int count) {
        StringBuilder s = new StringBuilder();
        for (int k = 0; k < count; k++) {
            s.append("word w").append((char) ('a' + k)).append(" at 0 0 lamp 1;");
        }
        return s.toString();
    }

    private static String lights(int count) {
        StringBuilder s = new StringBuilder();
        for (int k = 0; k < count; k++) {
            s.append(" at ").append(k % 3).append(' ').append(k / 3).append(" lamp 1");
        }
        return s.toString();
    }

    /** I: "{ STATEMENT ; } (70 at most)". The limits of the kinds leave 49 at most; none at all has a FAULT. */
    private static void statements() {
        String fullest = "ground 9 6;" + "wall 8 5;".repeat(20) + persons(10) + words(8) + "hymn wa beat 0;".repeat(10);
        stands(fullest, 49);
        stands(fullest + " ".repeat(1600 - fullest.length()), 49);
        stands(HEAD, 1);
        faulty(1, "^");
        faulty(1, " \n ^");
        faulty(1, "^;");
        faulty(1, "ground 3 3;^;");
    }

    /** I: "ground N N (WIDE, HIGH, 3 .. 9 and 3 .. 6". */
    private static void wideAndHigh() {
        stands("ground 3 3;", 1);
        stands("ground 9 6;", 1);
        stands("ground 3 6;", 1);
        faulty(2, "ground ^2 3;");
        faulty(2, "ground ^0 3;");
        faulty(2, "ground ^10 3;");
        faulty(2, "ground ^9999 3;");
        faulty(2, "ground 3 ^2;");
        faulty(2, "ground 3 ^7;");
        faulty(2, "ground 9 ^9;");
        HymnLamps x = Check.on("ground 9 6;");
        CHECK.due("WIDE 9", x.ground(0), 9);
        CHECK.due("HIGH 6", x.ground(1), 6);
    }

    /** I: "the first STATEMENT, and it alone". */
    private static void groundFirstAndAlone() {
        faulty(1, "^wall 0 0;");
        faulty(1, "^" + PERSON + HEAD);
        faulty(1, "^" + WORD + HEAD);
        faulty(1, "^hymn w beat 1;");
        faulty(1, HEAD + "^ground 3 3;");
        faulty(1, HEAD + PERSON + " ^ground 9 9;");
    }

    /** I: "wall CELL (a cell without anybody": of the two numbers FAULT 2 is at the second one. */
    private static void wallWithSomebody() {
        faulty(2, HEAD + PERSON + "wall 0 ^0;");
        faulty(2, HEAD + "person a at 2 2 lamp 0 walks x; wall 2 ^2;");
        stands(HEAD + PERSON + "wall 1 0;", 3);
        stands(HEAD + WORD + "wall 0 0;", 3);
    }

    /** I: "one that is a wall already, too". */
    private static void wallTwice() {
        stands(HEAD + "wall 2 2;wall 2 2;", 3);
        CHECK.due("one cell told twice is one wall", Check.on(HEAD + "wall 2 2;wall 2 2;").ground(2), 1);
        CHECK.due("two cells", Check.on(HEAD + "wall 2 2;wall 0 0;").ground(2), 2);
    }

    /** I: "20 such STATEMENTS": those of one cell count, too. */
    private static void twentyWalls() {
        stands(HEAD + walls(19), 20);
        stands(HEAD + walls(20), 21);
        faulty(5, HEAD + walls(20) + "^wall 1 1;");
        faulty(5, HEAD + walls(20) + "^wall 9 9;");
        faulty(5, HEAD + walls(20) + " ^wall");
        stands(HEAD + walls(20) + PERSON, 22);
        HymnLamps x = Check.on("ground 9 6;" + wallsOfAll());
        CHECK.due("twenty cells", x.ground(2), 20);
        for (int cell = 0; cell < 54; cell++) {
            CHECK.due("wall " + cell, x.steps(cell, cell), cell < 20 ? NONE : 0);
        }
    }

    private static String wallsOfAll() {
        StringBuilder s = new StringBuilder();
        for (int k = 0; k < 20; k++) {
            s.append("wall ").append(k % 9).append(' ').append(k / 9).append(';');
        }
        return s.toString();
    }

    /** I: "person NAME at CELL (a cell without wall, without anybody". */
    private static void personsCell() {
        faulty(2, HEAD + "wall 1 2; person a at 1 ^2 lamp 1 walks x;");
        faulty(2, HEAD + PERSON + "person b at 0 ^0 lamp 1 walks x;");
        faulty(2, HEAD + PERSON + "person b at 1 0 lamp 1 walks x;person c at 1 ^0 lamp 1 walks x;");
        stands(HEAD + "wall 1 2;" + PERSON + "person b at 1 0 lamp 1 walks x;person c at 0 1 lamp 1 walks x;", 5);
        stands(HEAD + WORD + PERSON, 3);
    }

    /** I: "lamp N (0 .. 2". */
    private static void personsLamp() {
        for (int lamp = 0; lamp <= 2; lamp++) {
            CHECK.due("lamp " + lamp, Check.on(HEAD + "person a at 0 0 lamp " + lamp + " walks x;").person(0, 1), lamp);
        }
        faulty(2, HEAD + "person a at 0 0 lamp ^3 walks x;");
        faulty(2, HEAD + "person a at 0 0 lamp ^9999 walks x;");
    }

    /** I: "10 PERSONS". */
    private static void tenPersons() {
        stands("ground 9 6;" + persons(10), 11);
        faulty(5, "ground 9 6;" + persons(10) + "^person pz at 5 5 lamp 1 walks x;");
        faulty(5, "ground 9 6;" + persons(10) + " ^person");
        faulty(5, "ground 9 6;" + persons(10) + "^person pa at 0 0 lamp 3");
        stands("ground 9 6;" + persons(10) + WORD, 12);
        HymnLamps x = Check.on("ground 9 6;" + persons(10));
        CHECK.due("the tenth", x.person(9, 0), 9);
        CHECK.due("the tenth's NAME", x.letter(0, 9, 1), 10);
    }

    /** I: "lamp N (1, 2". */
    private static void wordsLamps() {
        faulty(2, HEAD + "word w at 0 0 lamp ^0;");
        faulty(2, HEAD + "word w at 0 0 lamp ^3;");
        HymnLamps x = Check.on(HEAD + "word w at 0 0 lamp 1 at 1 0 lamp 2;");
        CHECK.due("lamp 1", x.word(0, 0), 1);
        CHECK.due("lamp 2", x.word(0, 1), 2);
        CHECK.due("no lamp", x.word(0, 2), 0);
    }

    /** I: "1 to 8 unlike cells", and "a 9th at of a WORD, at its first byte". */
    private static void eightCellsOfAWord() {
        faulty(1, HEAD + "word w^;");
        faulty(1, HEAD + "word w ^");
        stands(HEAD + "word w" + lights(1) + ";", 2);
        stands(HEAD + "word w" + lights(8) + ";", 2);
        CHECK.due("eight cells", Check.on(HEAD + "word w" + lights(8) + ";").word(0, NONE), 8);
        faulty(1, HEAD + "word w" + lights(8) + " ^at 2 2 lamp 1;");
        faulty(1, HEAD + "word w" + lights(8) + " ^at 0 0 lamp 1;");
        faulty(1, HEAD + "word w" + lights(8) + " ^at");
        faulty(1, HEAD + "word w" + lights(8) + "^");
        faulty(1, HEAD + "word w" + lights(7) + " ^lamp");
    }

    /** I: "unlike cells", and FAULT 2 of "a cell that was told of that WORD already, the second one". */
    private static void unlikeCellsOfAWord() {
        faulty(2, HEAD + "word w at 2 1 lamp 1 at 2 ^1 lamp 1;");
        faulty(2, HEAD + "word w at 2 1 lamp 2 at 2 ^1 lamp 1;");
        faulty(2, HEAD + "word w at 2 1 lamp 1 at 2 ^1 lamp 2;");
        faulty(2, HEAD + "word w at 0 0 lamp 1 at 1 0 lamp 1 at 0 ^0 lamp 1;");
        stands(HEAD + "word w at 2 1 lamp 1; word v at 2 1 lamp 1;", 3);
        stands(HEAD + "wall 2 1;" + PERSON + "word w at 2 1 lamp 1 at 0 0 lamp 2;", 4);
    }

    /** I: "8 WORDS". */
    private static void eightWords() {
        stands(HEAD + words(8), 9);
        faulty(5, HEAD + words(8) + "^word wz at 0 0 lamp 1;");
        faulty(5, HEAD + words(8) + " ^word wa at");
        faulty(5, HEAD + words(8) + "^word");
        stands(HEAD + words(8) + "hymn wh beat 0;", 10);
        CHECK.due("the eighth's NAME", Check.on(HEAD + words(8)).letter(1, 7, 1), 8);
    }

    /** I: "hymn NAME beat N (a WORD", and FAULT 3 of "one that is no WORD where one is asked, at it". */
    private static void hymnsWord() {
        faulty(3, HEAD + "hymn ^w beat 1;");
        faulty(3, HEAD + "hymn ^w beat 1;" + WORD);
        faulty(3, HEAD + PERSON + "hymn ^a beat 1;");
        faulty(3, HEAD + WORD + "hymn ^ww beat 1;");
        faulty(3, HEAD + "word ww at 0 0 lamp 1; hymn ^w beat 1;");
        faulty(3, HEAD + WORD + "hymn ^v beat 100;");
        stands(HEAD + WORD + "hymn w beat 1;", 3);
        HymnLamps x = Check.on(HEAD + words(8) + "hymn wh beat 1;hymn wa beat 1;");
        CHECK.due("the last WORD", x.hymn(0, 0), 7);
        CHECK.due("the first WORD", x.hymn(1, 0), 0);
    }

    /** I: "beat N (0 .. 99". */
    private static void hymnsBeat() {
        stands(HEAD + WORD + "hymn w beat 0;", 3);
        stands(HEAD + WORD + "hymn w beat 99;", 3);
        faulty(2, HEAD + WORD + "hymn w beat ^100;");
        faulty(2, HEAD + WORD + "hymn w beat ^9999;");
        CHECK.due("beat 99", Check.on(HEAD + WORD + "hymn w beat 99;").hymn(0, 1), 99);
    }

    /** I: "10 HYMNS". */
    private static void tenHymns() {
        stands(HEAD + WORD + "hymn w beat 1;".repeat(10), 12);
        faulty(5, HEAD + WORD + "hymn w beat 1;".repeat(10) + "^hymn w beat 2;");
        faulty(5, HEAD + WORD + "hymn w beat 1;".repeat(10) + " ^hymn nobody");
        CHECK.due("ten HYMNS", Check.on(HEAD + WORD + "hymn w beat 1;".repeat(10)).ground(6), 10);
    }

    /** I: "CELL: N N, across below WIDE, down below HIGH". */
    private static void cells() {
        stands("ground 4 3;wall 3 2;", 2);
        faulty(2, "ground 4 3;wall ^4 2;");
        faulty(2, "ground 4 3;wall 3 ^3;");
        faulty(2, "ground 4 3;wall ^4 3;");
        stands("ground 3 4;person a at 2 3 lamp 1 walks x;", 2);
        faulty(2, "ground 3 4;person a at ^3 3 lamp 1 walks x;");
        faulty(2, "ground 3 4;person a at 2 ^4 lamp 1 walks x;");
        stands("ground 9 6;word a at 8 5 lamp 1;", 2);
        faulty(2, "ground 9 6;word a at ^9 5 lamp 1;");
        faulty(2, "ground 9 6;word a at 8 ^6 lamp 1;");
        faulty(2, "ground 9 6;word a at 0 0 lamp 1 at ^9 0 lamp 1;");
    }

    /** I: "its number: down times WIDE, and across". */
    private static void cellsNumber() {
        HymnLamps x = Check.on("ground 9 6;person a at 0 0 lamp 1 walks x;person b at 8 0 lamp 1 walks x;"
                + "person c at 0 1 lamp 1 walks x;person d at 8 5 lamp 1 walks x;");
        int[] want = {0, 8, 9, 53};
        for (int k = 0; k < want.length; k++) {
            CHECK.due("told cell " + k, x.person(k, 0), want[k]);
        }
        CHECK.due("wide 3", Check.on("ground 3 6;person a at 2 5 lamp 1 walks x;").person(0, 0), 17);
    }

    /** I: "STEPS: 1 to 12 letters of n, e, s, w, x", and "STEPS whole, at their first byte". */
    private static void steps() {
        String start = HEAD + "person a at 0 0 lamp 1 walks ";
        stands(start + "n;", 2);
        stands(start + "neswxneswxne;", 2);
        faulty(1, start + "^;");
        faulty(1, start + "^");
        faulty(1, start + "^neswxneswxnes;");
        faulty(1, start + "^neswa;");
        faulty(1, start + "^anesw;");
        faulty(1, start + "^neswxneswxneq;");
        faulty(1, start + "^N;");
        faulty(1, start + "^1;");
        faulty(1, start + "nesw ^n;");
        faulty(1, start + "nesw^N;");
        faulty(1, start + "nesw^5;");
    }

    /** I: "NAMES: 1 to 6 letters", and "a 7th letter at itself". */
    private static void names() {
        stands(HEAD + "word a at 0 0 lamp 1;", 2);
        stands(HEAD + "word abcdef at 0 0 lamp 1; hymn abcdef beat 1;", 3);
        stands(HEAD + "person zzzzzz at 0 0 lamp 1 walks x;", 2);
        faulty(1, HEAD + "word abcdef^g at 0 0 lamp 1;");
        faulty(1, HEAD + "person abcdef^gh");
        faulty(1, HEAD + "word abcdef at 0 0 lamp 1; hymn abcdef^g beat 1;");
        faulty(1, HEAD + "word abcdef at 0 0 lamp 1; word abcdef^g at 0 0 lamp 1;");
        faulty(1, HEAD + "word ground^ground");
        faulty(1, HEAD + "word ^;");
        faulty(1, HEAD + "word ^5 at 0 0 lamp 1;");
        faulty(1, HEAD + "word ^A at 0 0 lamp 1;");
        faulty(1, HEAD + "hymn ^");
    }

    /** I: "no OWN WORD: ground, wall, ..", "where a NAME is asked, an OWN WORD so". */
    private static void ownWords() {
        for (String own : OWN) {
            faulty(1, HEAD + "person ^" + own + " at 0 0 lamp 1 walks x;");
            faulty(1, HEAD + "word ^" + own + " at 0 0 lamp 1;");
            faulty(1, HEAD + "hymn ^" + own + " beat 1;");
            String like = own.length() < 6 ? own + "s" : own.substring(0, 5);
            stands(HEAD + "word " + like + " at 0 0 lamp 1;", 2);
            for (int k = 0; k < own.length(); k++) {
                stands(HEAD + "word " + own.substring(0, k) + "q" + own.substring(k + 1) + " at 0 0 lamp 1;", 2);
            }
        }
        String[] others = {"first", "last", "often", "total", "most", "least", "and", "or", "not", "all", "clash", "lit",
            "read", "far", "glow", "min", "max", "x", "nesw", "walk"};
        for (String other : others) {
            stands(HEAD + "person " + other + " at 0 0 lamp 1 walks x;", 2);
        }
    }

    /** I: "unlike ones (of PERSONS and WORDS)", and FAULT 3 of "a NAME to be given that is there already, at it". */
    private static void unlikeNames() {
        faulty(3, HEAD + PERSON + "person ^a at 1 0 lamp 1 walks x;");
        faulty(3, HEAD + PERSON + "word ^a at 1 0 lamp 1;");
        faulty(3, HEAD + WORD + "person ^w at 1 0 lamp 1 walks x;");
        faulty(3, HEAD + WORD + "word ^w at 1 0 lamp 1;");
        faulty(3, HEAD + words(7) + "word ^wg at 1 0 lamp 1;");
        faulty(3, "ground 9 6;" + persons(9) + "person ^pi at 8 5 lamp 1 walks x;");
        faulty(3, HEAD + WORD + "word ^w");
        faulty(3, HEAD + WORD + "word ^w7");
        faulty(3, HEAD + "word abcdef at 0 0 lamp 1;person ^abcdef");
        stands(HEAD + "word abcdef at 0 0 lamp 1;word abcdeg at 0 0 lamp 1;word bbcdef at 0 0 lamp 1;word abcde at 0 0 lamp 1;", 5);
    }

    /** I: "NUMBERS: 1 to 4 digits", and "where a number is asked, a 5th digit at itself". */
    private static void numbers() {
        stands("ground 0003 0006;", 1);
        stands(HEAD + "wall 0000 0002;", 2);
        faulty(1, "ground 0000^3 3;");
        faulty(1, "ground 3 0000^3;");
        faulty(1, "ground 9999^9 3;");
        faulty(1, HEAD + "wall 0000^0 0;");
        faulty(1, HEAD + "person a at 0 0 lamp 0000^1 walks x;");
        faulty(1, HEAD + WORD + "hymn w beat 0000^1;");
        faulty(1, HEAD + WORD + "hymn w beat 0000^123;");
        faulty(2, HEAD + WORD + "hymn w beat ^0123;");
        faulty(1, "ground ^-3 3;");
        faulty(1, "ground ^+3 3;");
        faulty(1, "ground ^a 3;");
    }

    /** I: "Blanks (10, 32) are where one likes". */
    private static void blanks() {
        stands("\n \nground\n3 \n 3\n;\n\n", 1);
        stands(" ground 3 3 ; person a at 0 0 lamp 1 walks x ; word w at 0 0 lamp 1\nat 1\n0\nlamp 2 ; ", 3);
        stands("ground 3 3;wall 0 0;person a at 1 0 lamp 1 walks x;word w at 0 0 lamp 1;hymn w beat 1;", 5);
        int[] others = {9, 11, 12, 13, 0, 31, 33, 160, 255};
        for (int other : others) {
            faulty(1, "^" + (char) other + HEAD);
            faulty(1, "ground^" + (char) other + "3 3;");
            faulty(1, "ground 3 3^" + (char) other + ";");
            faulty(1, HEAD + "^" + (char) other);
        }
    }

    /** I: "(words and numbers side by side need one)". */
    private static void blanksSideBySide() {
        faulty(1, "ground^3 3;");
        faulty(1, HEAD + "wall^0 0;");
        faulty(1, HEAD + "person a at^0 0 lamp 1 walks x;");
        faulty(1, HEAD + "person a at 0 0^lamp 1 walks x;");
        faulty(1, HEAD + "person a at 0 0 lamp^1 walks x;");
        faulty(1, HEAD + "person a at 0 0 lamp 1^walks x;");
        faulty(1, HEAD + "word w at 0 0 lamp 1^at 1 0 lamp 1;");
        faulty(1, HEAD + WORD + "hymn w beat^1;");
        // two words or numbers without one are one word, one number
        faulty(1, "^groundground 3 3;");
        faulty(1, HEAD + "^walla 0 0;");
        faulty(1, HEAD + "person a ^ata 0 0 lamp 1 walks x;");
        faulty(2, "ground ^33;");
    }

    /** I: "FAULTS, the first along the text". */
    private static void firstAlongTheText() {
        faulty(2, "ground ^2 2 x");
        faulty(2, "ground ^2a");
        faulty(2, "ground 3 ^7");
        faulty(1, "ground 3 3 ^7; wall 9 9; hymn q");
        faulty(3, HEAD + "hymn ^q beat 100;");
        faulty(3, HEAD + PERSON + "word ^a lamp;");
        faulty(2, HEAD + PERSON + "person b at ^3 0 lamp 3 walks q;");
        faulty(2, HEAD + PERSON + "person b at 0 ^0 lamp 3 walks q;");
        faulty(2, HEAD + "person b at 0 0 lamp ^3 walks q;");
        faulty(1, HEAD + "person b at 0 0 lamp 0 walks ^q; wall 9 9;");
        faulty(2, HEAD + "wall 0 ^3;" + walls(21));
        faulty(5, HEAD + walls(20) + "^wall 9 9; hymn q beat 1; x");
    }

    /** I: FAULT 1 of "words whole, at their first byte". */
    private static void wordsWhole() {
        faulty(1, "^groun 3 3;");
        faulty(1, "^grounds 3 3;");
        faulty(1, "^Ground 3 3;");
        faulty(1, "^grounD 3 3;");
        faulty(1, HEAD + "^wal 0 0;");
        faulty(1, HEAD + "^walls 0 0;");
        faulty(1, HEAD + "^walks 0 0;");
        faulty(1, HEAD + "^at 0 0;");
        faulty(1, HEAD + "^persons a at 0 0 lamp 1 walks x;");
        faulty(1, HEAD + "^5;");
        faulty(1, HEAD + "person a ^a 0 0 lamp 1 walks x;");
        faulty(1, HEAD + "person a at 0 0 ^lamps 1 walks x;");
        faulty(1, HEAD + "person a at 0 0 lamp 1 ^walk x;");
        faulty(1, HEAD + "word a at 0 0 ^light 1;");
        faulty(1, HEAD + WORD + "hymn w ^beats 1;");
        String[] texts = {"^ground 3 3;", HEAD + "^wall 0 0;", HEAD + "^person a at 0 0 lamp 1 walks x;", HEAD + "^word w at 0 0 lamp 1;",
            HEAD + WORD + "^hymn w beat 1;", HEAD + "person a ^at 0 0 lamp 1 walks x;", HEAD + "person a at 0 0 ^lamp 1 walks x;",
            HEAD + "person a at 0 0 lamp 1 ^walks x;", HEAD + "word w ^at 0 0 lamp 1;", HEAD + "word w at 0 0 ^lamp 1;",
            HEAD + "word w at 0 0 lamp 1 ^at 1 0 lamp 1;", HEAD + WORD + "hymn w ^beat 1;"};
        for (String marked : texts) {
            int from = marked.indexOf('^') + 1;
            int stop = marked.indexOf(' ', from);
            for (int k = from; k < stop; k++) {
                faulty(1, marked.substring(0, k) + "q" + marked.substring(k + 1));
            }
        }
    }

    /** I: FAULT 1, "the first byte with which no such text goes on": each part is asked for. */
    private static void wholeStatements() {
        faulty(1, "ground ^;");
        faulty(1, "ground 3^;");
        faulty(1, "ground 3 3 ^wall 0 0;");
        faulty(1, HEAD + "wall 0^;");
        faulty(1, HEAD + "wall 0 0 ^0;");
        faulty(1, HEAD + "person ^at 0 0 lamp 1 walks x;");
        faulty(1, HEAD + "person a ^0 0 lamp 1 walks x;");
        faulty(1, HEAD + "person a at 0 ^lamp 1 walks x;");
        faulty(1, HEAD + "person a at 0 0 ^1 walks x;");
        faulty(1, HEAD + "person a at 0 0 lamp ^walks x;");
        faulty(1, HEAD + "person a at 0 0 lamp 1 ^x;");
        faulty(1, HEAD + "person a at 0 0 lamp 1 walks x ^walks x;");
        faulty(1, HEAD + "word w ^0 0 lamp 1;");
        faulty(1, HEAD + "word w at 0 0^;");
        faulty(1, HEAD + "word w at 0 0 lamp 1^,at 1 0 lamp 1;");
        faulty(1, HEAD + "word w at 0 0 lamp 1 ^lamp 2;");
        faulty(1, HEAD + WORD + "hymn w ^1;");
        faulty(1, HEAD + WORD + "hymn w beat^;");
        faulty(1, HEAD + WORD + "hymn w beat 1 ^2;");
    }

    /** I: FAULT 1 "at the text's length, if it ends too soon": all beginnings of a text; a word begun is not whole. */
    private static void endsTooSoon() {
        String text = "ground 3 4; wall 2 3; person ab at 1 2 lamp 2 walks nx; word no at 0 0 lamp 1 at 1 0 lamp 2; hymn no beat 9;";
        String keys = " ground wall person at lamp walks word hymn beat ";
        for (int length = 0; length < text.length(); length++) {
            String begun = text.substring(0, length);
            String last = begun.substring(begun.lastIndexOf(' ') + 1);
            String token = text.substring(begun.length() - last.length()).split("[ ;]", 2)[0];
            boolean halfKey = !last.isEmpty() && !last.contains(";") && keys.contains(" " + token + " ") && !token.equals(last);
            if (begun.trim().endsWith(";")) {
                stands(begun, begun.split(";").length - (begun.endsWith(" ") ? 1 : 0));
            } else if (last.equals("n") && begun.contains("hymn")) {
                faulty(3, begun.substring(0, length - 1) + "^n");
            } else {
                faulty(1, halfKey ? begun.substring(0, length - last.length()) + "^" + last : begun + "^");
            }
        }
        stands(text, 5);
    }

    /** I: FAULT 5 of "one too many of a kind, at its first byte", whatever stands there behind its first word. */
    private static void kindsAtTheirFirstByte() {
        String full = "ground 9 6;" + walls(20) + persons(10) + words(8) + "hymn wa beat 1;".repeat(10);
        stands(full, 49);
        faulty(5, full + "\n ^wall");
        faulty(5, full + "\n ^person ?");
        faulty(5, full + "^word\u00ff");
        faulty(5, full + "^hymn7");
        faulty(1, full + "^ground");
        faulty(1, full + "^hymns");
        faulty(1, full + "^;");
        faulty(1, full + "^7");
    }
}
