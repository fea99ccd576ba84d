/** Term IV: each sentence that names a boundary case has a test of its own, which quotes it. */
public final class QuestionEdgesTest {
    private static final Check CHECK = new Check();
    /** a meets b in BEAT 2 by going by him, and stands in cell 11 from BEAT 6 on; b is in cell 0 from BEAT 3 on. */
    private static final String PLAIN = "ground 4 3;wall 1 1;person a at 0 0 lamp 1 walks es;person b at 3 0 lamp 2 walks w;"
            + "person c at 0 2 lamp 0 walks x;word u at 1 0 lamp 1 at 2 0 lamp 2;word v at 0 1 lamp 1;";
    private static final String BARE = "ground 3 3;";

    public static void main(String[] args) {
        firstAndLast();
        oftenNoneAndAll();
        totalIsNotHeld();
        mostAndLeast();
        tests();
        onePartOfEachLength();
        numbers();
        clashLitRead();
        atFarGlow();
        numbersThatThereAreNot();
        fromTheLeftOn();
        division();
        heldProducts();
        heldSumsAndDifferences();
        heldInside();
        faultOfTheBeginning();
        faultOfWords();
        faultOfForm();
        faultOfNumbers();
        faultBehindIt();
        faultOfBlanks();
        faultOfAnEnd();
        faultOfTheSeventh();
        sixAreNoFault();
        closedOnesAreNotOpen();
        firstFaultAlongTheText();
        longest();
        manyOnOneObject();
        CHECK.done();
    }

    private static void asked(String question, long want) {
        CHECK.asked(Check.on(PLAIN), question, want);
    }

    /** The FAULT is due where the question has its ^, which is left out. */
    private static void faulty(int fault, String marked) {
        int place = marked.indexOf('^');
        CHECK.askedFault(Check.on(PLAIN), marked.substring(0, place) + marked.substring(place + 1), fault, place);
    }

    /** IV: "of all BEATS 0 .. 99", "first TEST, last TEST (the first, the last BEAT in which it holds)". */
    private static void firstAndLast() {
        asked("first all", 0);
        asked("last all", 99);
        asked("first beat=0", 0);
        asked("last beat=0", 0);
        asked("first beat=99", 99);
        asked("last beat=99", 99);
        asked("first beat=100", -1);
        asked("last beat=100", -1);
        asked("first beat<0", -1);
        asked("first beat>97 or beat<0", 98);
        asked("last beat<2 or beat=50", 50);
    }

    /** IV: "often TEST (in how many)": none, one, all. */
    private static void oftenNoneAndAll() {
        asked("often all", 100);
        asked("often not all", 0);
        asked("often beat=99", 1);
        asked("often beat=0", 1);
        asked("often beat>0", 99);
    }

    /** IV: "total SUM (of all together, not held)". */
    private static void totalIsNotHeld() {
        asked("total 9999*9999", 100000000);
        asked("total 0-9999*9999", -100000000);
        asked("total beat", 4950);
        asked("total 0", 0);
        asked("total beat-beat", 0);
    }

    /** IV: "most SUM, least SUM (the greatest, the least of all)": in the first, the last BEAT; below 0, too. */
    private static void mostAndLeast() {
        asked("most beat", 99);
        asked("least beat", 0);
        asked("most 0-beat", 0);
        asked("least 0-beat", -99);
        asked("most 0-1-beat", -1);
        asked("least 1+beat", 1);
        asked("most 7", 7);
        asked("least 7", 7);
        asked("most beat*(99-beat)", 2450);
        asked("least beat*beat-100*beat", -2500);
    }

    /** IV: "TEST: BOTH { or BOTH }. BOTH: FACT { and FACT }. FACT: not FACT; [ TEST ] ; all; SUM SIGN SUM". */
    private static void tests() {
        asked("often beat<10", 10);
        asked("often beat>10", 89);
        asked("often beat=10", 1);
        asked("often 10>beat", 10);
        asked("often 10=10", 100);
        asked("often 10<10", 0);
        asked("often 10>10", 0);
        asked("often all or all and not all", 100);
        asked("often not all and all or all", 100);
        asked("often [all or all] and not all", 0);
        asked("often not all and [all or all]", 0);
        asked("often not all or not all", 0);
        asked("often not beat=5 and beat=5", 0);
        asked("often not [beat=5 and beat=6]", 100);
        asked("often not not beat=5", 1);
        asked("often beat=1 or beat=2 or beat=3", 3);
        asked("often beat>1 and beat<9 and not beat=4", 6);
        asked("often beat=1 and beat=1 or beat=2 and beat=2 or beat=3 and beat=4", 2);
    }

    /** IV: "{ .. }" may be none, one, more; "( SUM )". */
    private static void onePartOfEachLength() {
        asked("most 1", 1);
        asked("most 1+2", 3);
        asked("most 1+2-3", 0);
        asked("most 2*3", 6);
        asked("most 2*3/4", 1);
        asked("most (1)", 1);
        asked("most ((1+2))*3", 9);
        asked("most min(1,2)", 1);
        asked("most min(2,1)", 1);
        asked("most max(1,2)", 2);
        asked("most max(2,1)", 2);
        asked("most min(1,1)+max(1,1)", 2);
        asked("most min(0-1,1)", -1);
        asked("most max(0-1,0-2)", -1);
    }

    /** IV: "N (1 to 4 digits)". */
    private static void numbers() {
        asked("most 0", 0);
        asked("most 9999", 9999);
        asked("most 0000", 0);
        asked("most 0007", 7);
        asked("most 1000", 1000);
    }

    /** IV: "1 if there is a CLASH in it, else 0; how many cells are LIT in it; the WORD READ .. and 1, 0 if none is". */
    private static void clashLitRead() {
        asked("total clash", 1);
        asked("first clash=1", 2);
        asked("most lit", 2);
        asked("first lit=1", 2);
        asked("total read", 1);
        asked("first read=1", 1);
        CHECK.asked(Check.on(BARE), "total clash+lit+read", 0);
        CHECK.asked(Check.on(BARE + "person a at 0 2 lamp 1 walks x;word u at 0 0 lamp 1;word v at 0 2 lamp 1;"), "least read", 2);
        CHECK.asked(Check.on(BARE + "person a at 0 2 lamp 1 walks x;word u at 0 0 lamp 1;"), "most read", 0);
    }

    /** IV: "the cell of the PERSON of that number in it; how FAR it is from the WORD of that number; what is LIT .. in the cell". */
    private static void atFarGlow() {
        asked("last at 0<11", 5);
        asked("most at 2", 8);
        asked("least at 1", 0);
        asked("least far 0", 0);
        asked("first far 0=0", 1);
        asked("most far 1", 3);
        asked("first glow 1=2", 2);
        asked("last glow 11=0", 5);
        asked("most glow at 1", 2);
        asked("most glow 0+11", 13);
        asked("most glow (0+11)", 1);
        asked("most at 0*0", 0);
        asked("most far beat/100", 0);
        asked("most at at at 2", 99);
        asked("first at beat=2", 1);
    }

    /** IV: "of numbers that there are not 99, 99, 0": just behind the last, below 0, as large as can be. */
    private static void numbersThatThereAreNot() {
        for (String number : new String[] {"3", "(0-1)", "9999", "(9999*9999)", "(0-9999*9999)", "(3+beat)"}) {
            asked("least at " + number, 99);
            asked("most at " + number, 99);
        }
        for (String number : new String[] {"2", "(0-1)", "9999", "(9999*9999)", "(0-9999*9999)", "(2+beat)"}) {
            asked("least far " + number, 99);
            asked("most far " + number, 99);
        }
        for (String number : new String[] {"12", "(0-1)", "63", "64", "65", "76", "9999", "(9999*9999)", "(0-9999*9999)", "(12+beat)"}) {
            asked("most glow " + number, 0);
            asked("least glow " + number, 0);
        }
        CHECK.asked(Check.on(BARE), "least at 0", 99);
        CHECK.asked(Check.on(BARE), "least far 0", 99);
        CHECK.asked(Check.on(BARE), "most glow 0", 0);
        CHECK.asked(Check.on("ground 9 6;person a at 8 5 lamp 2 walks x;"), "least glow 53", 2);
        CHECK.asked(Check.on("ground 9 6;person a at 8 5 lamp 2 walks x;"), "most glow 54", 0);
        asked("least at 2", 8);
    }

    /** IV: "All from the left on". */
    private static void fromTheLeftOn() {
        asked("most 9-5-3", 1);
        asked("most 9-5+3", 7);
        asked("most 24/4/3", 2);
        asked("most 24/4*3", 18);
        asked("most 7*3/2", 10);
        asked("most 7/2*3", 9);
        asked("most 1+2*3", 7);
        asked("most 9-2*3-1", 2);
        asked("most 9-6/3*2+1", 6);
    }

    /** IV: "/ gives the greatest whole number not above, by 0 it gives 0". */
    private static void division() {
        asked("most 7/2", 3);
        asked("most (0-7)/2", -4);
        asked("most 7/(0-2)", -4);
        asked("most (0-7)/(0-2)", 3);
        asked("most (0-6)/2", -3);
        asked("most 0/5", 0);
        asked("most 1/2", 0);
        asked("most (0-1)/2", -1);
        asked("most (0-1)/9999", -1);
        asked("most 5/0", 0);
        asked("least (0-5)/0", 0);
        asked("most 0/0", 0);
        asked("most 5/(beat-beat)+1", 1);
        asked("most 1000*1000/(0-1)", -1000000);
        asked("most (0-1000*1000)/(0-1)", 1000000);
    }

    /** IV: "product above 10 to the 6 is that, below -10 to the 6 likewise": at, by one below, by one above. */
    private static void heldProducts() {
        asked("most 1000*1000", 1000000);
        asked("most 9999*100", 999900);
        asked("most 101*9901", 1000000);
        asked("most 9091*110", 1000000);
        asked("most (0-1000)*1000", -1000000);
        asked("most (0-101)*9901", -1000000);
        asked("most (0-9999)*100", -999900);
        asked("most 999*1001", 999999);
        asked("most (0-999)*1001", -999999);
        asked("most 1000*1000*1000*1000*1000*1000*1000", 1000000);
        asked("most (0-1000*1000)*(1000*1000)", -1000000);
        asked("most (0-1000*1000)*(0-1000*1000)", 1000000);
    }

    /** IV: "each sum, difference .. above 10 to the 6 is that, below -10 to the 6 likewise". */
    private static void heldSumsAndDifferences() {
        asked("most 999*1001+1", 1000000);
        asked("most 999*1001+2", 1000000);
        asked("most 1000*1000+9999", 1000000);
        asked("most 1000*1000-(0-1)", 1000000);
        asked("most 0-999*1001-1", -1000000);
        asked("most 0-999*1001-2", -1000000);
        asked("most 0-1000*1000-9999", -1000000);
        asked("most 0-1000*1000+(0-1)", -1000000);
        asked("most 1000*1000-1", 999999);
        asked("most 0-1000*1000+1", -999999);
    }

    /** IV: held at once, so that what comes behind it goes on from there. */
    private static void heldInside() {
        asked("most 9999*9999-1000*1000", 0);
        asked("most 9999*9999/9999", 100);
        asked("most 1000*1000+1-1", 999999);
        asked("most 0-1000*1000-1+1", -999999);
        asked("often 9999*9999=1000*1000", 100);
        asked("most min(9999*9999,1000*1000)", 1000000);
        asked("total 9999*9999-1", 99999900);
    }

    /** IV: "first .., last .., often .., total .., most .., least ..": any other beginning is FAULT 1. */
    private static void faultOfTheBeginning() {
        faulty(1, "^");
        faulty(1, "^firs all");
        faulty(1, "^firstall");
        faulty(1, "^First all");
        faulty(1, "^all");
        faulty(1, "^min(1,2)");
        faulty(1, "^5");
        faulty(1, "^[all]");
        faulty(1, " ^how all");
        faulty(1, "^\u00e9");
        asked(" \n often\nall\n ", 100);
    }

    /** IV: FAULT 1 of "an unknown word at its first byte". */
    private static void faultOfWords() {
        faulty(1, "total ^spot");
        faulty(1, "total 1+^beats");
        faulty(1, "total ^bea");
        faulty(1, "often ^alls");
        faulty(1, "often all ^ands all");
        faulty(1, "often all ^an");
        faulty(1, "total at ^person");
        faulty(1, "total ^total");
        faulty(1, "total ^all");
        faulty(1, "total 1 ^and 2");
        faulty(1, "often beat=1 ^not beat=1");
        faulty(1, "total ^minimum(1,2)");
        faulty(1, "total ^not 1");
        String[] words = {"^first all", "^last all", "^often all", "^total 1", "^most 1", "^least 1", "often ^not all", "often ^all",
            "often all ^and all", "often all ^or all", "total ^beat", "total ^clash", "total ^lit", "total ^read", "total ^at 0",
            "total ^far 0", "total ^glow 0", "total ^min(1,2)", "total ^max(1,2)"};
        for (String marked : words) {
            int from = marked.indexOf('^') + 1;
            int stop = (marked + " ").substring(from).split("[ (]")[0].length() + from;
            for (int k = from; k < stop; k++) {
                faulty(1, marked.substring(0, k) + "q" + marked.substring(k + 1));
            }
        }
    }

    /** IV: FAULT 1 of what the QUESTION's rules do not have there. */
    private static void faultOfForm() {
        faulty(1, "total ^-5");
        faulty(1, "total 5+^+5");
        faulty(1, "total 5^%5");
        faulty(1, "total (^)");
        faulty(1, "total (5^]");
        faulty(1, "total (5^<6)");
        faulty(1, "total min^5");
        faulty(1, "total min ^[5,6]");
        faulty(1, "total min(5^)");
        faulty(1, "total min(5^;6)");
        faulty(1, "total min(5,^)");
        faulty(1, "total min(5,6^,7)");
        faulty(1, "total min(^,6)");
        faulty(1, "total at ^*");
        faulty(1, "often [^]");
        faulty(1, "often [all^)");
        faulty(1, "often (^all)");
        faulty(1, "often (^[");
        faulty(1, "often 1<^not all");
        faulty(1, "often 1^!1");
        faulty(1, "often 1<^=1");
        faulty(1, "often 1<1^<1");
        faulty(1, "often all ^= all");
        faulty(1, "often all and ^or all");
        faulty(1, "often not ^and all");
        faulty(1, "often [all]^=1");
    }

    /** I and IV: "where a number is asked, a 5th digit at itself". */
    private static void faultOfNumbers() {
        faulty(1, "total 1234^5");
        faulty(1, "total 0000^0");
        faulty(1, "total at 0000^0");
        faulty(1, "total (1+1234^56)");
        faulty(1, "total min(1,1234^5)");
        asked("most 1234", 1234);
    }

    /** IV: FAULT 1 of "what stands behind it, too". */
    private static void faultBehindIt() {
        faulty(1, "total 5 ^5");
        faulty(1, "total 5 ^beat");
        faulty(1, "total 5^;");
        faulty(1, "total 5^)");
        faulty(1, "total 5 ^12345");
        faulty(1, "often all ^all");
        faulty(1, "often all^]");
        faulty(1, "often all ^5");
        faulty(1, "often 1=1 ^=");
        faulty(1, "total 5^\t");
        faulty(1, "total 5^\0");
    }

    /** I and IV: "words and numbers side by side need one". */
    private static void faultOfBlanks() {
        faulty(1, "total^5");
        faulty(1, "total at^0");
        faulty(1, "total 5^at 0");
        faulty(1, "often 1=1^and all");
        faulty(1, "often 1=1^or all");
        faulty(1, "total ^atat 0");
        faulty(1, "total beat^0");
        asked("often[not[all]]", 0);
        asked("total(5)", 500);
        asked("often 1<2 and[all]and all", 100);
    }

    /** I and IV: "at the text's length, if it ends too soon". */
    private static void faultOfAnEnd() {
        faulty(1, "total^");
        faulty(1, "total ^");
        faulty(1, "often\n\n^");
        faulty(1, "total 5+^");
        faulty(1, "total 5 * ^");
        faulty(1, "total at^");
        faulty(1, "total (5^");
        faulty(1, "total min^");
        faulty(1, "total min(^");
        faulty(1, "total min(5^");
        faulty(1, "total min(5,^");
        faulty(1, "total min(5,6^");
        faulty(1, "often 5^");
        faulty(1, "often 5<^");
        faulty(1, "often not^");
        faulty(1, "often [^");
        faulty(1, "often [all^");
        faulty(1, "often all and^");
        faulty(1, "often all or ^");
    }

    /** IV: FAULT 4, "the 7th of ( [ not at far glow that is open at once, at it": each of them as the 7th. */
    private static void faultOfTheSeventh() {
        faulty(4, "total ((((((^(");
        faulty(4, "often [[[[[[^[");
        faulty(4, "often not not not not not not ^not");
        faulty(4, "total at at at at at at ^at");
        faulty(4, "total far far far far far far ^far");
        faulty(4, "total glow glow glow glow glow glow ^glow");
        faulty(4, "often [not[not[not ^[");
        faulty(4, "often [not[not[not ^not");
        faulty(4, "often [not[at(far ^glow 1");
        faulty(4, "often [not[at(far ^at 1");
        faulty(4, "often [not[at(far ^far 1");
        faulty(4, "often [not[at(far ^(1");
        faulty(4, "total min(min(min(min(min(min(min^(1,2)");
        faulty(4, "total ((((((max^(1,2)");
        faulty(4, "total max(1,max(1,max(1,max(1,max(1,max(1,^(2)");
        faulty(4, "total at far glow at far glow ^at");
    }

    /** IV: six are open at once without a FAULT. */
    private static void sixAreNoFault() {
        asked("most ((((((5))))))", 5);
        asked("often [[[[[[all]]]]]]", 100);
        asked("often not not not not not not all", 100);
        asked("least at at at at at at 9", 99);
        asked("least far far far far far far 9", 99);
        asked("most glow glow glow glow glow glow 0", 0);
        asked("often [not[at(far 5)=99]]", 0);
        asked("most min(min(min(min(min(min(1,2),3),4),5),6),7)", 1);
        asked("most (((((max(1,2))))))", 2);
    }

    /** IV: "(not until its FACT, at, far, glow until their PART ends)": behind it they are open no more. */
    private static void closedOnesAreNotOpen() {
        asked("often not not not not not not all and not not not not not not all or not all", 100);
        asked("most (((((1)))))+((((((1))))))+(1)", 3);
        asked("often [[[[[[all]]]]]] and [[[[[[all]]]]]]", 100);
        asked("least at at at at at at 9+at at at at at at 9+at 2", 206);
        asked("least glow glow glow glow glow glow 0+glow glow glow glow glow glow 99", 0);
        asked("least far far far far far far 9*far far far far far far 9", 9801);
        asked("often not not not not not not 1=2 or not not not not not not 1=1", 100);
        asked("often not not not not not beat<at 2", 92);
        asked("least max(1,(((((2))))))+min((((((1))))),(((((2))))))", 3);
        faulty(4, "often not not not not not not beat<5 and [[[[[[^[");
        faulty(4, "often not not not not not at 0=at ^at 0");
        faulty(4, "least at (((((^(1)");
        faulty(4, "often not not not not not not beat<^at 2");
    }

    /** I and IV: "the first along the text". */
    private static void firstFaultAlongTheText() {
        faulty(1, "total ^spot (((((((");
        faulty(4, "total ((((((^(spot");
        faulty(1, "total 1234^5 (((((((");
        faulty(4, "total ((((((^(12345");
        faulty(1, "total ((((((^)");
        faulty(1, "total ((((((^[");
        faulty(1, "often [[[[[[1<^not all");
        faulty(1, "total ((((((min ^1");
    }

    /** IV and 2: a QUESTION as long as the tape. */
    private static void longest() {
        String longest = "total " + "1+".repeat(796) + "1";
        asked(longest + " ", 79700);
        asked(longest + "0", 80600);
        faulty(1, longest + "^;");
        faulty(1, longest + "+^");
        asked("often" + " ".repeat(1592) + "all", 100);
        asked("often all" + " or all".repeat(227), 100);
        asked("often all" + " and all".repeat(198), 100);
    }

    /** 33: many on one object: none leaves anything to the next one, with a FAULT or without. */
    private static void manyOnOneObject() {
        HymnLamps x = Check.on(PLAIN);
        for (int k = 1; k < 5; k++) {
            CHECK.asked(x, "total " + "1+".repeat(700) + k, 70000 + 100 * k);
            CHECK.askedFault(x, "total ((((((5", 1, 13);
            CHECK.askedFault(x, "often not not not not not not not all", 4, 30);
            CHECK.asked(x, "most ((((((" + k + "))))))", k);
        }
    }
}
