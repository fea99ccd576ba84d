import java.util.Random;

/** No call throws or fails to end, for any arguments in any state (the words; LANGUAGE.md 7). */
public final class AnyCallTest {
    private static final int MAX = Integer.MAX_VALUE;
    private static final int MIN = Integer.MIN_VALUE;
    private static final int[] WILD = {0, 1, 2, 3, 5, 7, 8, 9, 10, 11, 12, 21, 22, 31, 32, 33, 53, 54, 55, 63, 64, 65, 99, 100, 128, 255, 256,
        1599, 1600, 1601, 1 << 16, 1 << 30, -1, -2, -10, -64, -100, MIN, MIN + 1, MAX, MAX - 1, MAX - 10};
    private static final int[] FEW = {0, 1, 7, 8, 10, 54, 64, 99, 100, -1, -2, MIN, MAX};
    private static final String PLAIN = "ground 4 3; wall 1 1; person ann at 0 0 lamp 1 walks es; person bob at 3 0 lamp 2 walks w;"
            + "person cid at 0 2 lamp 0 walks x; word dot at 1 0 lamp 1 at 2 0 lamp 2; word bar at 0 1 lamp 1; hymn dot beat 1;";
    private static final int STATES = 8;
    private static final int CALLS = 36;
    /** The calls up to these take three numbers and two; those behind one alone. */
    private static final int LAST_OF_THREE = 11;
    private static final int LAST_OF_TWO = 23;
    private static final int[] NOTHING_ELSE = {0};
    /** An object is used for at most 512 calls; a new one takes its place ahead of that. */
    private static final int MOST_CALLS = 150;
    private static final String[] WORDS = {"ground", "wall", "person", "at", "lamp", "walks", "word", "hymn", "beat", "first", "last", "often",
        "total", "most", "least", "all", "not", "and", "or", "clash", "lit", "read", "far", "glow", "min", "max", "a", "b", "nesw",
        "(", ")", "[", "]", "<", ">", "=", "+", "-", "*", "/", ",", ";", ";", "0", "1", "2", "3", "4", "99", "100", "12345", "\n", "\0", "\u00ff"};
    private static volatile String latest = "";
    private static volatile Throwable thrown;
    private static long sum;

    public static void main(String[] args) throws InterruptedException {
        Thread thread = new Thread(AnyCallTest::all);
        thread.setDaemon(true);
        thread.start();
        thread.join(120000);
        boolean ended = !thread.isAlive();
        if (!ended || thrown != null) {
            System.out.println((ended ? "thrown by " : "does not end: ") + latest);
            if (thrown != null) {
                thrown.printStackTrace(System.out);
            }
            System.exit(1);
        }
        System.out.println("all calls ended, none threw; all answers together are " + sum);
    }

    private static void all() {
        try {
            for (int state = 0; state < STATES; state++) {
                for (int call = 0; call < CALLS; call++) {
                    latest = "call " + call + " in state " + state;
                    wildNumbers(state, call);
                }
            }
            for (int seed = 0; seed < 3000; seed++) {
                wildTapes(new Random(seed), seed);
            }
        } catch (Throwable any) {
            thrown = any;
        }
    }

    private static String fullest() {
        StringBuilder s = new StringBuilder("ground 9 6;");
        for (int k = 0; k < 20; k++) {
            s.append("wall ").append(k % 9).append(' ').append(3 + k / 9).append(';');
        }
        for (int k = 0; k < 10; k++) {
            s.append("person p").append((char) ('a' + k)).append(" at ").append(k % 9).append(' ').append(k / 9)
                    .append(" lamp ").append(k < 8 ? 1 : 0).append(" walks neswxneswxne;");
        }
        for (int k = 0; k < 8; k++) {
            s.append("word w").append((char) ('a' + k));
            for (int n = 0; n <= (k < 2 ? 7 : k); n++) {
                s.append(" at ").append(n).append(" 2 lamp 1");
            }
            s.append(';');
        }
        for (int k = 0; k < 10; k++) {
            s.append("hymn wa beat 9;");
        }
        return s.toString();
    }

    private static HymnLamps in(int state) {
        HymnLamps x = new HymnLamps();
        switch (state) {
            case 0: return x;
            case 1: Check.tape(x, "ground 9 9;"); x.text(); return x;
            case 2: return Check.on("ground 3 3;");
            case 3: return Check.on(PLAIN);
            case 4: return Check.on(fullest());
            case 5: return busy();
            case 6: Check.tape(x, "( [ ;".repeat(320)); return x;
            default:
                HymnLamps full = busy();
                Check.tape(full, "\u00ff".repeat(1600));
                return full;
        }
    }

    private static HymnLamps busy() {
        HymnLamps x = Check.on(PLAIN);
        Check.tape(x, new int[12]);
        x.paint();
        x.image();
        for (int k = 0; k < 21; k++) {
            x.lamp(0, k % 3);
        }
        return x;
    }

    private static void wildNumbers(int state, int call) {
        int[] seconds = call <= LAST_OF_THREE ? FEW : call <= LAST_OF_TWO ? WILD : NOTHING_ELSE;
        int[] thirds = call <= LAST_OF_THREE ? FEW : NOTHING_ELSE;
        HymnLamps x = in(state);
        int made = 0;
        for (int a : WILD) {
            for (int b : seconds) {
                for (int c : thirds) {
                    if (made++ % MOST_CALLS == 0) {
                        x = in(state);
                    }
                    call(x, call, a, b, c);
                }
            }
        }
    }

    private static void call(HymnLamps x, int call, int a, int b, int c) {
        switch (call) {
            case 0: sum += x.feed(a, b, c, a, b); break;
            case 1: sum += x.letter(a, b, c); break;
            case 2: sum += x.least(a, b, c); break;
            case 3: sum += x.way(a, b, c, 0); break;
            case 4: sum += x.way(0, a, b, c); break;
            case 5: sum += x.way(c, 0, a, b); break;
            case 6: sum += x.way(99, c, 0, a); break;
            case 7: sum += x.far(a, b, c > 0); break;
            case 8: sum += x.letter(0, a, b) + x.letter(1, b, c); break;
            case 9: sum += x.least(0, a, b) + x.least(99, b, c); break;
            case 10: sum += x.lamp(a, b) ? c : 0; break;
            case 11: sum += x.learn(a, b) + x.learn(0, c); break;
            default: callOfTwo(x, call, a, b);
        }
    }

    private static void callOfTwo(HymnLamps x, int call, int a, int b) {
        switch (call) {
            case 12: sum += x.person(a, b); break;
            case 13: sum += x.word(a, b); break;
            case 14: sum += x.hymn(a, b); break;
            case 15: sum += x.where(a, b); break;
            case 16: sum += x.lit(a, b); break;
            case 17: sum += x.read(a, b > 0); break;
            case 18: sum += x.nearest(a, b); break;
            case 19: sum += x.between(a, b); break;
            case 20: sum += x.soon(a, b); break;
            case 21: sum += x.steps(a, b); break;
            case 22: sum += x.missed(a, b); break;
            case 23: sum += x.far(a, b, true); break;
            default: callOfOne(x, call, a);
        }
    }

    private static void callOfOne(HymnLamps x, int call, int a) {
        switch (call) {
            case 24: sum += x.end(a) ? 1 : 0; break;
            case 25: sum += x.text() + x.fault(a); break;
            case 26: sum += x.ground(a); break;
            case 27: sum += x.clash(a) + x.clashes(); break;
            case 28: sum += x.still(a); break;
            case 29: sum += x.said(a); break;
            case 30: sum += x.danger(a); break;
            case 31: sum += x.alike(a); break;
            case 32: sum += x.teach(a) ? 1 : 0; break;
            case 33: sum += x.octet(a) + x.image(); break;
            case 34: sum += (x.paint() ? 1 : 0) + (x.undo() ? 1 : 0); break;
            default: sum += x.ask() + (x.on() ? 1 : 0);
        }
    }

    /** Tapes of any bytes, of words of both languages side by side, of a text or an image that is broken at a place. */
    private static void wildTapes(Random random, int seed) {
        HymnLamps x = in(random.nextInt(STATES));
        for (int n = 0; n < 3; n++) {
            String tape = wildTape(random, seed + n, x);
            latest = "a call with the tape '" + tape + "'";
            Check.tape(x, tape);
            switch (random.nextInt(5)) {
                case 0: sum += x.text(); break;
                case 1: sum += x.ask(); break;
                case 2: sum += x.on() ? 1 : 0; break;
                case 3: sum += x.paint() ? 1 : 0; break;
                default: sum += x.teach(0) ? 1 : 0;
            }
            sum += x.fault(0) + x.ground(7) + x.clashes() + x.image() + x.said(-1) + x.missed(9, -1) + x.least(0, 0, -1) + x.learn(0, 0);
        }
    }

    private static String wildTape(Random random, int kind, HymnLamps x) {
        StringBuilder s = new StringBuilder();
        int length = random.nextInt(10) == 0 ? 1600 : random.nextInt(200);
        switch (kind % 5) {
            case 0:
                while (s.length() < length) {
                    s.append((char) random.nextInt(256));
                }
                break;
            case 1: case 2:
                s.append(kind % 5 == 1 ? "ground 3 3;" : WORDS[9 + random.nextInt(6)] + " ");
                while (s.length() < length) {
                    s.append(WORDS[random.nextInt(WORDS.length)]).append(random.nextInt(6) > 0 ? " " : "");
                }
                break;
            case 3:
                s.append(fullest(), 0, Math.min(length, fullest().length()));
                break;
            default:
                for (int k = x.image(); k > 0; k--) {
                    s.append((char) Math.max(0, x.octet(s.length())));
                }
        }
        if (s.length() > 0 && random.nextInt(2) == 0) {
            s.setCharAt(random.nextInt(s.length()), (char) random.nextInt(256));
        }
        return s.length() > 1600 ? s.substring(0, 1600) : s.toString();
    }
}
