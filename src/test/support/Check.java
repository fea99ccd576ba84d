/** What the tests share: answers that are due, and ways to put texts on the tape. */
public final class Check {
    private int wrong;

    public void due(String call, long got, long want) {
        if (got != want) {
            wrong++;
            System.out.println(call + " answered " + got + ", due is " + want);
        }
    }

    public void due(String call, boolean got, boolean want) {
        due(call, got ? 1 : 0, want ? 1 : 0);
    }

    /** Tells the text as THE GROUND, and looks at its FAULT. */
    public void fault(HymnLamps x, String text, int fault, int place) {
        tape(x, text);
        int got = x.text();
        due("text() of '" + text + "' is a FAULT", got == HymnLamps.NONE, fault != 0);
        due("fault(0) of '" + text + "'", x.fault(0), fault);
        due("fault(1) of '" + text + "'", x.fault(1), place);
    }

    public void asked(HymnLamps x, String question, long want) {
        tape(x, question);
        due("ask() of '" + question + "'", x.ask(), want);
        due("fault(0) of '" + question + "'", x.fault(0), 0);
        due("fault(1) of '" + question + "'", x.fault(1), -1);
    }

    public void askedFault(HymnLamps x, String question, int fault, int place) {
        tape(x, question);
        due("ask() of '" + question + "'", x.ask(), HymnLamps.NOTHING);
        due("fault(0) of '" + question + "'", x.fault(0), fault);
        due("fault(1) of '" + question + "'", x.fault(1), place);
    }

    public void done() {
        System.out.println(wrong == 0 ? "all answers are as due" : wrong + " answers are not as due");
        if (wrong != 0) {
            System.exit(1);
        }
    }

    /** What an object answers to some 150 calls that change nothing: what a refused call has to leave as it was. */
    public static String answers(HymnLamps x) {
        StringBuilder s = new StringBuilder();
        s.append(x.fault(0)).append(' ').append(x.fault(1)).append(" ground");
        for (int what = 0; what <= 8; what++) {
            s.append(' ').append(x.ground(what));
        }
        for (int k = 0; k < 3; k++) {
            s.append("\nperson ").append(k);
            for (int what = 0; what <= 4; what++) {
                s.append(' ').append(x.person(k, what));
            }
            for (int step = 0; step < 4; step++) {
                s.append(' ').append(x.person(k, 10 + step)).append(' ').append(x.where(k, 1 + step * 2));
            }
            s.append(" word ").append(x.word(k, HymnLamps.NONE)).append(' ').append(x.hymn(k, 0)).append(' ').append(x.hymn(k, 1));
            s.append(" letters ").append(x.letter(0, k, 0)).append(' ').append(x.letter(1, k, 0));
        }
        for (int cell = 0; cell < 12; cell++) {
            s.append(' ').append(x.word(0, cell)).append(' ').append(x.steps(cell, cell)).append(' ').append(x.lit(1, cell));
        }
        s.append("\nsum ").append(x.clash(0)).append(' ').append(x.clashes()).append(' ').append(x.said(HymnLamps.NONE)).append(' ')
                .append(x.alike(HymnLamps.NONE)).append(' ').append(x.danger(1)).append(' ').append(x.nearest(1, 2)).append(' ')
                .append(x.read(1, true)).append(' ').append(x.least(0, 0, HymnLamps.NONE)).append(' ').append(x.soon(0, 0));
        s.append("\npicture");
        for (int beat = 0; beat < 4; beat++) {
            s.append(' ').append(x.missed(beat, HymnLamps.NONE));
        }
        s.append("\nimage");
        for (int k = 0; k < 12; k++) {
            s.append(' ').append(x.octet(k));
        }
        return s.toString();
    }

    public void same(String call, String got, String want) {
        if (!got.equals(want)) {
            wrong++;
            System.out.println(call + " left\n" + got + "\ndue is\n" + want);
        }
    }

    public static HymnLamps on(String text) {
        HymnLamps x = new HymnLamps();
        tape(x, text);
        int statements = x.text();
        if (statements == HymnLamps.NONE) {
            throw new IllegalStateException("FAULT " + x.fault(0) + " at " + x.fault(1) + " of " + text);
        }
        return x;
    }

    public static void tape(HymnLamps x, String text) {
        int[] bytes = new int[text.length()];
        for (int k = 0; k < bytes.length; k++) {
            bytes[k] = text.charAt(k);
        }
        tape(x, bytes);
    }

    /** Makes these bytes the whole tape. */
    public static void tape(HymnLamps x, int... bytes) {
        x.end(0);
        for (int from = 0; from < bytes.length; from += 20) {
            int[] numbers = new int[5];
            for (int k = 0; k < 20; k++) {
                int octet = from + k < bytes.length ? bytes[from + k] : ' ';
                numbers[k / 4] = numbers[k / 4] << 8 | octet & 255;
            }
            x.feed(numbers[0], numbers[1], numbers[2], numbers[3], numbers[4]);
        }
        x.end(bytes.length);
    }

    /** Makes these bytes, and the sum behind them, the whole tape. */
    public static void image(HymnLamps x, int... bytes) {
        int[] all = new int[bytes.length + 1];
        int sum = 109;
        for (int k = 0; k < bytes.length; k++) {
            all[k] = bytes[k];
            sum = (3 * sum + bytes[k]) % 251;
        }
        all[bytes.length] = sum;
        tape(x, all);
    }
}
