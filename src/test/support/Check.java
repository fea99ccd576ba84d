/** What the tests share: answers that are due, and ways to put texts on the tape. */
public final class Check {
    private int wrong;

    public void due(String call, long got, long want) {
        if (got != want) {
            wrong++;
            System.out.println(call + " answered " + got + ", due is " + want);
        }
    }

    public void due(String call, boolean got, boolean want) {
        due(call, got ? 1 : 0, want ? 1 : 0);
    }

    /** Tells the text as THE GROUND, and looks at its FAULT. */
    public void fault(HymnLamps x, String text, int fault, int place) {
        tape(x, text);
        int got = x.text();
        due("text() of '" + text + "' is a FAULT", got == HymnLamps.NONE, fault != 0);
        due("fault(0) of '" + text + "'", x.fault(0), fault);
        due("fault(1) of '" + text + "'", x.fault(1), place);
    }

    public void asked(HymnLamps x, String question, long want) {
        tape(x, question);
        due("ask() of '" + question + "'", x.ask(), want);
        due("fault(0) of '" + question + "'", x.fault(0), 0);
        due("fault(1) of '" + question + "'", x.fault(1), -1);
    }

    public void askedFault(HymnLamps x, String question, int fault, int place) {
        tape(x, question);
        due("ask() of '" + question + "'", x.ask(), HymnLamps.NOTHING);
        due("fault(0) of '" + question + "'", x.fault(0), fault);
        due("fault(1) of '" + question + "'", x.fault(1), place);
    }

    public void done() {
        System.out.println(wrong == 0 ? "all answers are as due" : wrong + " answers are not as due");
        if (wrong != 0) {
            System.exit(1);
        }
    }

    public static HymnLamps on(String text) {
        HymnLamps x = new HymnLamps();
        tape(x, text);
        int statements = x.text();
        if (statements == HymnLamps.NONE) {
            throw new IllegalStateException("FAULT " + x.fault(0) + " at " + x.fault(1) + " of " + text);
        }
        return x;
    }

    public static void tape(HymnLamps x, String text) {
        int[] bytes = new int[text.length()];
        for (int k = 0; k < bytes.length; k++) {
            bytes[k] = text.charAt(k);
        }
        tape(x, bytes);
    }

    /** Makes these bytes the whole tape. */
    public static void tape(HymnLamps x, int... bytes) {
        x.end(0);
        for (int from = 0; from < bytes.length; from += 20) {
            int[] numbers = new int[5];
            for (int k = 0; k < 20; k++) {
                int octet = from + k < bytes.length ? bytes[from + k] : ' ';
                numbers[k / 4] = numbers[k / 4] << 8 | octet & 255;
            }
            x.feed(numbers[0], numbers[1], numbers[2], numbers[3], numbers[4]);
        }
        x.end(bytes.length);
    }
}
