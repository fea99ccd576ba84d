import java.util.ArrayList;
import java.util.List;
import java.util.Random;

/** Random runs of calls (always the same ones), each answer beside that of the naive Model. */
public final class FuzzTest {
    private static final int RUNS = 400;
    private static final int CALLS = 500;

    private final Random random;
    private final HymnLamps x = new HymnLamps();
    private final Model model = new Model();
    private final StringBuilder told = new StringBuilder();
    private int calls;
    private int wrong;

    /** One in how many things is wrong where it need not be. */
    private final int rarity;

    private FuzzTest(long seed) {
        random = new Random(seed);
        rarity = seed % 3 == 0 ? 200 : 3000;
    }

    public static void main(String[] args) {
        int wrong = 0;
        for (int run = 0; run < RUNS && wrong == 0; run++) {
            FuzzTest test = new FuzzTest(run);
            test.run();
            if (test.wrong > 0) {
                System.out.println("run " + run + ":\n" + test.told);
            }
            wrong += test.wrong;
        }
        System.out.println(wrong == 0 ? "all answers are as due" : wrong + " answers are not as due");
        if (wrong != 0) {
            System.exit(1);
        }
    }

    private void run() {
        for (int n = 0; n < 9 && model.ground(0) == 0 && some(20) > 0; n++) {
            tellGround(false);
        }
        while (calls < CALLS && wrong == 0) {
            call();
        }
    }

    private void due(String call, long got, long want) {
        calls++;
        told.append(call).append(" = ").append(got).append('\n');
        if (got != want) {
            wrong++;
            told.append("   due is ").append(want).append('\n');
        }
    }

    private void due(String call, boolean got, boolean want) {
        due(call, got ? 1 : 0, want ? 1 : 0);
    }

    private void tape(String text) {
        due("end(0)", x.end(0), model.end(0));
        for (int from = 0; from < text.length(); from += 20) {
            int[] n = new int[5];
            for (int k = 0; k < 20; k++) {
                n[k / 4] = n[k / 4] << 8 | (from + k < text.length() ? text.charAt(from + k) & 255 : random.nextInt(256));
            }
            due("feed", x.feed(n[0], n[1], n[2], n[3], n[4]), model.feed(n));
            calls--;
        }
        due("end(" + text.length() + ") '" + text + "'", x.end(text.length()), model.end(text.length()));
    }

    // ---- texts

    private int some(int n) {
        return random.nextInt(n);
    }

    private boolean rarely() {
        return some(rarity) == 0;
    }

    private String blank() {
        return some(20) > 0 ? " " : rarely() ? "" : some(2) == 0 ? "\n" : "  ";
    }

    private String steps() {
        StringBuilder s = new StringBuilder();
        int length = 1 + some(some(3) == 0 ? 12 : 4);
        String letters = some(3) == 0 ? "ew" : "neswxnesw";
        for (int k = 0; k < length + (rarely() ? 12 : 0); k++) {
            s.append(letters.charAt(some(letters.length())));
        }
        return rarely() ? s + "q" : s.toString();
    }

    private String name(List<String> names, boolean fresh) {
        if (rarely()) {
            return new String[] {"wall", "lamp", "at", "toolong", "12", "persons", ";"}[some(7)];
        }
        if (!names.isEmpty() && (!fresh || rarely())) {
            return names.get(some(names.size()));
        }
        StringBuilder s = new StringBuilder();
        for (int k = some(6); k >= 0; k--) {
            s.append((char) ('a' + some(26)));
        }
        names.add(s.toString());
        return s.toString();
    }

    private void tellGround(boolean broken) {
        int wide = rarely() ? some(12) : 3 + some(some(2) == 0 ? 3 : 7);
        int high = rarely() ? some(9) : 3 + some(some(2) == 0 ? 2 : 4);
        StringBuilder s = new StringBuilder();
        s.append("ground").append(blank()).append(wide).append(blank()).append(high).append(blank()).append(';');
        boolean[] walls = new boolean[1000];
        boolean[] taken = new boolean[1000];
        int persons = rarely() ? 11 : some(some(2) == 0 ? 11 : 5);
        for (int k = rarely() ? 21 : some(wide * high / 5 + 2); k > 0; k--) {
            int cell = some(wide * high + 1) - (some(30) == 0 ? 0 : 1);
            walls[Math.max(0, cell)] = true;
            s.append(blank()).append("wall").append(blank()).append(cellText(Math.max(0, cell), Math.max(1, wide))).append(';');
        }
        List<String> names = new ArrayList<>();
        StringBuilder lights = new StringBuilder();
        int like = some(3);
        int bearing = 0;
        for (int k = 0; k < persons; k++) {
            int cell = some(wide * high + 1);
            for (int n = 0; n < 60 && !rarely() && (cell >= wide * high || walls[cell] || taken[cell]); n++) {
                cell = some(Math.max(1, wide * high));
            }
            taken[cell] = true;
            int lamp = rarely() ? 3 : like > 0 && some(5) > 0 ? like : some(3);
            bearing += lamp > 0 ? 1 : 0;
            s.append(blank()).append("person").append(blank()).append(name(names, true)).append(blank()).append("at")
                    .append(blank()).append(cellText(cell, Math.max(1, wide))).append(blank()).append("lamp").append(blank())
                    .append(lamp).append(blank()).append("walks").append(blank()).append(steps()).append(blank()).append(';');
            lights.append(" at ").append(cellText(cell, Math.max(1, wide))).append(" lamp ").append(Math.max(1, lamp));
        }
        List<String> words = new ArrayList<>();
        for (int k = rarely() ? 9 : some(9); k > 0; k--) {
            List<String> own = new ArrayList<>(names);
            String name = name(own, true);
            words.add(name);
            names.add(name);
            s.append(blank()).append("word").append(blank()).append(name);
            s.append(lit(walls, wide, high, like, bearing)).append(';');
        }
        for (int k = rarely() ? 11 : some(11); k > 0 && !words.isEmpty(); k--) {
            s.append(blank()).append("hymn").append(blank()).append(name(words, false)).append(blank()).append("beat")
                    .append(blank()).append(some(some(2) == 0 ? 5 : 101)).append(blank()).append(';');
        }
        String text = s.append(blank()).toString();
        if (text.length() > 1600) {
            text = text.substring(0, 1600);
        }
        text = broken ? breakUp(text) : text;
        tape(text);
        due("text()", x.text(), model.text());
        due("fault(0)", x.fault(0), model.fault(0));
        due("fault(1)", x.fault(1), model.fault(1));
    }

    private static String cellText(int cell, int wide) {
        return cell % wide + " " + cell / wide;
    }

    /** Lights of a WORD: what is LIT in a BEAT if such PERSONS stood there before, else anything. */
    private String lit(boolean[] walls, int wide, int high, int like, int bearing) {
        StringBuilder s = new StringBuilder();
        boolean[] own = new boolean[1000];
        int count = rarely() ? 9 : some(3) > 0 && bearing > 0 ? Math.min(8, bearing) : 1 + some(4);
        for (int k = 0; k < count; k++) {
            int cell = some(Math.max(1, wide * high));
            for (int n = 0; n < 60 && !rarely() && (own[cell] || walls[cell] && some(20) > 0); n++) {
                cell = some(Math.max(1, wide * high));
            }
            own[cell] = true;
            int lamp = rarely() ? 3 * some(2) : like > 0 && some(8) > 0 ? like : 1 + some(2);
            s.append(blank()).append("at").append(blank()).append(cellText(cell, Math.max(1, wide))).append(blank())
                    .append("lamp").append(blank()).append(lamp);
        }
        return s.append(blank()).toString();
    }

    private String breakUp(String text) {
        String result = text;
        for (int n = 1 + some(2); n > 0 && !result.isEmpty(); n--) {
            int at = some(result.length());
            String more = "" + " ;x0a)(]A9w".charAt(some(11));
            int how = some(4);
            result = how == 0 ? result.substring(0, at)
                    : how == 1 ? result.substring(0, at) + result.substring(at + 1)
                    : how == 2 ? result.substring(0, at) + more + result.substring(at)
                    : result.substring(0, at) + more + result.substring(at + 1);
        }
        return result;
    }

    /** A new text with WORDS as they are LIT in this one, so that something is said. */
    private void tellAgain() {
        int wide = model.ground(0);
        if (wide == 0) {
            return;
        }
        StringBuilder s = new StringBuilder("ground " + wide + " " + model.ground(1) + ";");
        for (int k = 0; k < model.ground(3); k++) {
            StringBuilder steps = new StringBuilder();
            for (int n = 0; n < model.person(k, 2); n++) {
                steps.append("neswx".charAt(model.person(k, 10 + n)));
            }
            s.append("person p").append((char) ('a' + k)).append(" at ").append(cellText(model.person(k, 0), wide))
                    .append(" lamp ").append(model.person(k, 1)).append(" walks ").append(steps).append(';');
        }
        int words = 0;
        for (int k = 1 + some(8); k > 0; k--) {
            int beat = some(some(2) == 0 ? 6 : 100);
            StringBuilder lights = new StringBuilder();
            int count = 0;
            for (int cell = 0; cell < wide * model.ground(1); cell++) {
                if (model.lit(beat, cell) > 0) {
                    count++;
                    lights.append(" at ").append(cellText(cell, wide)).append(" lamp ").append(model.lit(beat, cell));
                }
            }
            if (count > 0 && count < 9 && words < 8) {
                s.append("word w").append((char) ('a' + words)).append(lights).append(';');
                s.append("hymn w").append((char) ('a' + words)).append(" beat ").append(beat).append(';');
                words++;
            }
        }
        tape(s.toString());
        due("text()", x.text(), model.text());
        due("fault(0)", x.fault(0), model.fault(0));
    }

    private String test(int depth) {
        StringBuilder s = new StringBuilder(fact(depth));
        for (int k = some(3); k > 0; k--) {
            s.append(blank()).append(some(2) == 0 ? "and" : "or").append(blank()).append(fact(depth));
        }
        return s.toString();
    }

    private String fact(int depth) {
        switch (depth > 0 ? some(7) : some(2)) {
            case 0: return "all";
            case 2: return "not" + blank() + fact(depth - 1);
            case 3: return "[" + blank() + test(depth - 1) + blank() + "]";
            default: return sum(depth) + blank() + "<>=".charAt(some(3)) + blank() + sum(depth);
        }
    }

    private String sum(int depth) {
        StringBuilder s = new StringBuilder(part(depth));
        for (int k = some(depth > 0 ? 4 : 2); k > 0; k--) {
            s.append(blank()).append("+-*/".charAt(some(4))).append(blank()).append(part(depth));
        }
        return s.toString();
    }

    private String part(int depth) {
        switch (some(depth > 0 ? 11 : 6)) {
            case 0: return "" + some(some(3) == 0 ? 10000 : 12);
            case 1: return "beat";
            case 2: return "clash";
            case 3: return "lit";
            case 4: return "read";
            case 5: return rarely() ? "12345" : "" + some(20);
            case 6: return "at" + blank() + part(depth - 1);
            case 7: return "far" + blank() + part(depth - 1);
            case 8: return "glow" + blank() + part(depth - 1);
            case 9: return "(" + blank() + sum(depth - 1) + blank() + ")";
            default: return (some(2) == 0 ? "min" : "max") + blank() + "(" + sum(depth - 1) + blank() + "," + sum(depth - 1) + ")";
        }
    }

    private void ask() {
        int depth = some(20) == 0 ? 9 : some(5);
        boolean whether = some(2) == 0;
        String question = (whether ? new String[] {"first", "last", "often"} : new String[] {"total", "most", "least"})[some(3)]
                + blank() + (whether ? test(depth) : sum(depth));
        if (some(4) == 0) {
            question = breakUp(question);
        }
        tape(question.length() > 1600 ? question.substring(0, 1600) : question);
        due("ask()", x.ask(), model.ask());
        due("fault(0)", x.fault(0), model.fault(0));
        due("fault(1)", x.fault(1), model.fault(1));
    }

    // ---- calls

    /** A number that is mostly below most, at times just outside, rarely wild. */
    private int number(int most) {
        if (some(15) > 0) {
            return some(Math.max(1, most));
        }
        int[] wild = {-1, -2, most, most + 1, Integer.MAX_VALUE, Integer.MIN_VALUE, 1 << 30, 64, 100, 99};
        return wild[some(wild.length)];
    }

    private void call() {
        int persons = model.ground(3);
        int cells = model.ground(0) * model.ground(1);
        int a;
        int b;
        int c;
        int d;
        boolean below = some(3) == 0;
        switch (some(43)) {
            case 0: a = number(9); due("ground(" + a + ")", x.ground(a), model.ground(a)); break;
            case 1: a = some(3); b = number(9); c = number(6);
                due("letter(" + a + ", " + b + ", " + c + ")", x.letter(a, b, c), model.letter(a, b, c)); break;
            case 2: case 3: a = number(persons); b = number(22);
                due("person(" + a + ", " + b + ")", x.person(a, b), model.person(a, b)); break;
            case 4: a = number(model.ground(5)); b = some(3) == 0 ? -1 : number(cells);
                due("word(" + a + ", " + b + ")", x.word(a, b), model.word(a, b)); break;
            case 5: a = number(model.ground(6)); b = number(4);
                due("hymn(" + a + ", " + b + ")", x.hymn(a, b), model.hymn(a, b)); break;
            case 6: a = number(persons); b = number(100);
                due("where(" + a + ", " + b + ")", x.where(a, b), model.where(a, b)); break;
            case 7: a = number(100); b = number(cells);
                due("lit(" + a + ", " + b + ")", x.lit(a, b), model.lit(a, b)); break;
            case 8: a = number(4); due("clash(" + a + ")", x.clash(a), model.clash(a)); break;
            case 9: due("clashes()", x.clashes(), model.clashes()); break;
            case 10: a = number(persons); due("still(" + a + ")", x.still(a), model.still(a)); break;
            case 11: a = number(100); due("read(" + a + ", " + below + ")", x.read(a, below), model.read(a, below)); break;
            case 12: a = number(100); b = number(model.ground(5));
                due("far(" + a + ", " + b + ", " + below + ")", x.far(a, b, below), model.far(a, b, below)); break;
            case 13: case 14: a = number(100); b = number(4);
                due("nearest(" + a + ", " + b + ")", x.nearest(a, b), model.nearest(a, b)); break;
            case 15: a = some(2) == 0 ? number(20) : -1; due("said(" + a + ")", x.said(a), model.said(a)); break;
            case 16: a = number(100); b = number(100);
                due("between(" + a + ", " + b + ")", x.between(a, b), model.between(a, b)); break;
            case 17: case 18: a = number(100); due("danger(" + a + ")", x.danger(a), model.danger(a)); break;
            case 19: case 20: a = number(100); b = number(model.ground(5)); c = some(3) == 0 ? -1 : number(8);
                due("least(" + a + ", " + b + ", " + c + ")", x.least(a, b, c), model.least(a, b, c)); break;
            case 21: a = number(100); b = number(model.ground(5));
                due("soon(" + a + ", " + b + ")", x.soon(a, b), model.soon(a, b)); break;
            case 22: case 23: a = number(100); b = number(model.ground(5)); c = number(persons); d = number(8);
                due("way(" + a + ", " + b + ", " + c + ", " + d + ")", x.way(a, b, c, d), model.way(a, b, c, d)); break;
            case 24: a = number(cells); b = number(cells);
                due("steps(" + a + ", " + b + ")", x.steps(a, b), model.steps(a, b)); break;
            case 25: paint(persons, cells); break;
            case 26: a = number(100); b = some(3) == 0 ? -1 : some(3);
                due("missed(" + a + ", " + b + ")", x.missed(a, b), model.missed(a, b)); break;
            case 27: a = some(3) == 0 ? -1 : number(persons); due("alike(" + a + ")", x.alike(a), model.alike(a)); break;
            case 28: case 29: a = number(persons); tape(steps());
                due("teach(" + a + ")", x.teach(a), model.teach(a)); break;
            case 30: case 31: a = number(persons); b = number(3);
                due("lamp(" + a + ", " + b + ")", x.lamp(a, b), model.lamp(a, b)); break;
            case 32: case 33: a = number(persons); b = number(model.ground(5));
                due("learn(" + a + ", " + b + ")", x.learn(a, b), model.learn(a, b)); break;
            case 34: due("undo()", x.undo(), model.undo()); break;
            case 35: case 36: case 37: ask(); break;
            case 38: due("image()", x.image(), model.image()); break;
            case 39: a = number(30); due("octet(" + a + ")", x.octet(a), model.octet(a)); break;
            case 40: board(); break;
            case 41: a = number(1600); due("end(" + a + ")", x.end(a), model.end(a)); break;
            default:
                if (some(4) == 0) {
                    tellGround(false);
                } else if (some(4) == 0) {
                    tellGround(true);
                } else {
                    tellAgain();
                }
        }
    }

    /** Paints what one who missed his step would leave LIT, at times something else; and asks who it was. */
    private void paint(int persons, int cells) {
        int beat = some(some(2) == 0 ? 8 : 100);
        int[] lights = new int[cells];
        for (int cell = 0; cell < cells; cell++) {
            lights[cell] = model.lit(beat, cell);
        }
        if (persons > 0 && some(4) > 0) {
            int person = some(persons);
            int here = model.where(person, beat);
            int near = Math.min(cells - 1, Math.max(0, here + new int[] {1, -1, model.ground(0), -model.ground(0)}[some(4)]));
            lights[near] = Math.max(lights[near], model.person(person, 1));
            lights[here] = 0;
            for (int other = 0; other < persons; other++) {
                if (other != person) {
                    int cell = model.where(other, beat);
                    lights[cell] = Math.max(lights[cell], model.person(other, 1));
                }
            }
        }
        StringBuilder s = new StringBuilder();
        for (int light : lights) {
            s.append((char) (some(500) == 0 ? 3 : light));
        }
        tape(some(30) == 0 ? s + "\0" : s.toString());
        due("paint()", x.paint(), model.paint());
        for (int k = -1; k < 3; k++) {
            due("missed(" + beat + ", " + k + ")", x.missed(beat, k), model.missed(beat, k));
        }
    }

    private void board() {
        due("image()", x.image(), model.image());
        StringBuilder s = new StringBuilder();
        for (int k = 0; x.octet(k) != HymnLamps.NONE; k++) {
            s.append((char) x.octet(k));
        }
        if (some(3) == 0) {
            s.setCharAt(some(s.length()), (char) some(6));
        }
        if (some(2) == 0) {
            int sum = 109;
            for (int k = 0; k < s.length() - 1; k++) {
                if (k > 0 && s.charAt(k) > 0 && s.charAt(k) < 5 && some(8) == 0) {
                    s.setCharAt(k, (char) some(5));
                }
                sum = (3 * sum + s.charAt(k)) % 251;
            }
            s.setCharAt(s.length() - 1, (char) sum);
        }
        tape(some(10) == 0 ? s + " " : some(10) == 0 ? s.substring(1) : s.toString());
        due("on()", x.on(), model.on());
    }
}
