/**
 * The boundaries that the document names for the TAPE and the TEXTS (Terms, promises 1 to 5 and 20), a sentence
 * at a time: each CHECK.of says which. The answers were worked out from the document's words.
 */
public final class BoundsOfTextsTest {
    private static final int HIDDEN = -1000000;
    private static final int LOWEST = Integer.MIN_VALUE;
    private static final int HIGHEST = Integer.MAX_VALUE;
    private static final String SIXTEEN = "d;d;d;d;d;d;d;d;d;d;d;d;d;d;d;d";
    private static final Check CHECK = new Check("BoundsOfTextsTest");

    public static void main(String[] args) {
        newObject();
        bytesThatCome();
        bytesInOrder();
        fullTape();
        endOfTape();
        sortsOfFaults();
        clausesOfHouse();
        orderOfClauses();
        itemsOfRules();
        itemsOfDishes();
        itemsOfGuests();
        digitsOfItems();
        lettersOnce();
        endsTooEarly();
        blanks();
        signsOfHouse();
        clausesOfLaw();
        numbersOfLaw();
        nesting();
        partsOfLaw();
        signsOfLaw();
        boundsOfNumbers();
        division();
        worth();
        stepsOfWeek();
        digitsOfSteps();
        signsOfWeek();
        stepsAskedFor();
        fourTexts();
        anotherHouse();
        CHECK.finish();
    }

    private static void fault(int sort, String text, int want) {
        GongHouse x = new GongHouse();
        Check.tape(x, text);
        CHECK.due("fault(" + sort + ") of '" + text + "'", x.fault(sort), want);
        CHECK.due("text(" + sort + ") of '" + text + "' is refused", x.text(sort) == -1, want != -1);
        CHECK.due("bytes behind text(" + sort + ") of '" + text + "'", x.count(4), want == -1 ? 0 : text.length());
    }

    private static String times(String part, int n) {
        return part.repeat(n);
    }

    // ---- promise 1 ----

    private static void newObject() {
        CHECK.of("P1: No HOUSE");
        GongHouse x = new GongHouse();
        int[] counts = {0, 0, 0, 0, 0, -1, 0, 0, 0, 1, 0, 0, 0};
        for (int what = 0; what < counts.length; what++) {
            CHECK.due("count(" + what + ")", x.count(what), counts[what]);
        }
        for (int what = 0; what < 3; what++) {
            CHECK.due("rule(" + what + ")", x.rule(what), -1);
            CHECK.due("dish(0, " + what + ")", x.dish(0, what), -1);
        }
        for (int what = 0; what < 6; what++) {
            CHECK.due("guest(0, " + what + ")", Check.guest(x, 0, what), -1000);
        }
    }

    // ---- promise 2 ----

    private static void bytesThatCome() {
        CHECK.of("P2: Twenty bytes more come to the TAPE: how many it has");
        GongHouse x = new GongHouse();
        CHECK.due("all twenty", x.feed(0x01010101, -1, 0x7f7f7f7f, 0x80808080, 0x20202020), 20);
        CHECK.due("all twenty again", x.feed(LOWEST | 0x010101, HIGHEST, 0x01020304, -2, 0x64646464), 40);
        CHECK.of("P2: bytes of 0 are left out");
        CHECK.due("nothing at all", x.feed(0, 0, 0, 0, 0), 40);
        CHECK.due("the highest of the first alone", x.feed(LOWEST, 0, 0, 0, 0), 41);
        CHECK.due("the lowest of the last alone", x.feed(0, 0, 0, 0, 1), 42);
        CHECK.due("one of each", x.feed(0x01000000, 0x00010000, 0x00000100, 0x00000001, 0xff000000), 47);
        CHECK.due("two with 0 between", x.feed(0, 0, 0x01000001, 0, 0), 49);
        CHECK.due("count", x.count(4), 49);
        GongHouse y = new GongHouse();
        CHECK.due("nothing on a new TAPE", y.feed(0, 0, 0, 0, 0), 0);
        CHECK.due("d ; g with 0 between", y.feed(0x00640000, 0, 0x3b000000, 0, 0x00006700), 3);
        CHECK.due("they are next to one another", y.fault(0), -1);
    }

    private static void bytesInOrder() {
        CHECK.of("P2: of each number the highest first");
        GongHouse x = new GongHouse();
        CHECK.due("x12;c3;i;u;x45;d;x67", x.feed(0x7831323b, 0x63333b69, 0x3b753b78, 0x34353b64, 0x3b783637), 20);
        CHECK.due("taken", x.text(2), 0);
        int[][] want = {{4, 1, 2}, {1, 3, -1}, {2, -1, -1}, {3, -1, -1}, {4, 4, 5}, {0, -1, -1}, {4, 6, 7}};
        for (int i = 0; i < want.length; i++) {
            for (int what = 0; what < 3; what++) {
                CHECK.due("step(0, " + i + ", " + what + ")", x.step(0, i, what), want[i][what]);
            }
        }
    }

    private static void fullTape() {
        CHECK.of("P2: NONE: more than 240");
        GongHouse x = new GongHouse();
        int four = 0x20202020;
        for (int i = 1; i <= 12; i++) {
            CHECK.due("feed " + i, x.feed(four, four, four, four, four), 20 * i);
        }
        CHECK.due("the 241st", x.feed(0, 0, 0, 0, 32), -1);
        CHECK.due("nothing more", x.feed(0, 0, 0, 0, 0), 240);
        CHECK.due("end", x.end(239), true);
        CHECK.due("two more than 239", x.feed(0x20000000, 0, 0, 0, 32), -1);
        CHECK.due("one more than 239", x.feed(0, 0, 0x2000, 0, 0), 240);
        CHECK.due("end", x.end(221), true);
        CHECK.due("twenty more than 221", x.feed(four, four, four, four, four), -1);
        CHECK.due("none of them came", x.count(4), 221);
        CHECK.due("nineteen more than 221", x.feed(four, four, four, four, 0x202020), 240);
        CHECK.of("P2, P5: a TEXT of 240 bytes is whole");
        GongHouse y = new GongHouse();
        CHECK.due("blanks and d;g", Check.tape(y, times(" ", 237) + "d;g"), 240);
        CHECK.due("fault", y.fault(0), -1);
        CHECK.due("text", y.text(0), 1);
        CHECK.due("empty then", y.count(4), 0);
        fault(0, "d;g" + times(" ", 237), -1);
        fault(0, "d" + times(" ", 239), 240);
        fault(0, times(" ", 239) + "z", 239);
        fault(2, times(" ", 240), 240);
    }

    // ---- promise 3 ----

    private static void endOfTape() {
        CHECK.of("P3: The TAPE has its first n bytes alone");
        GongHouse x = new GongHouse();
        Check.tape(x, "dw5c9;g");
        CHECK.due("all of them", x.end(7), true);
        CHECK.due("count", x.count(4), 7);
        CHECK.due("one less", x.end(6), true);
        CHECK.due("count", x.count(4), 6);
        CHECK.due("three", x.end(3), true);
        CHECK.due("count", x.count(4), 3);
        CHECK.due("what comes is behind them", x.feed(0x3b670000, 0, 0, 0, 0), 5);
        CHECK.due("dw5;g", x.text(0), 1);
        CHECK.due("warmth", x.dish(0, 0), 5);
        CHECK.due("cost as usual", x.dish(0, 1), 2);
        CHECK.of("P3: False: n");
        CHECK.due("none of none", x.end(0), true);
        CHECK.due("one of none", x.end(1), false);
        CHECK.due("less than none", x.end(-1), false);
        Check.tape(x, "d;g");
        int[] wrong = {-1, 4, 240, 241, LOWEST, HIGHEST};
        for (int n : wrong) {
            CHECK.due("end(" + n + ") of three", x.end(n), false);
            CHECK.due("three still", x.count(4), 3);
        }
        CHECK.due("none", x.end(0), true);
        CHECK.due("nothing is there", x.fault(0), 0);
    }

    // ---- promise 4: the FAULT ----

    private static void sortsOfFaults() {
        CHECK.of("P4: a HOUSE (0), a LAW (1), a WEEK (2); -2: no such sort");
        GongHouse x = new GongHouse();
        int[] wrong = {-1, 3, -2, LOWEST, HIGHEST};
        for (int sort : wrong) {
            CHECK.due("fault(" + sort + ") of nothing", x.fault(sort), -2);
        }
        Check.tape(x, "d;g");
        for (int sort : wrong) {
            CHECK.due("fault(" + sort + ")", x.fault(sort), -2);
        }
        CHECK.due("as a HOUSE", x.fault(0), -1);
        CHECK.due("as a LAW", x.fault(1), 0);
        CHECK.due("as a WEEK", x.fault(2), 2);
        CHECK.of("P4: the FAULT changes nothing");
        CHECK.due("bytes", x.count(4), 3);
        CHECK.due("no HOUSE", x.rule(0), -1);
        CHECK.due("no LAW, no WEEK", x.count(2) + x.count(3), 0);
    }

    private static void clausesOfHouse() {
        CHECK.of("Terms: s (one at most); FAULT: a second s at it");
        fault(0, "d;g", -1);
        fault(0, "s;d;g", -1);
        fault(0, "s;s;d;g", 2);
        fault(0, "d;g;s;s", 6);
        fault(0, "sl1;d;sl1;g", 6);
        CHECK.of("Terms: d (1 .. 5); FAULT: a sixth d at it, the length without a DISH");
        fault(0, "g", 1);
        fault(0, "s;g;g ", 6);
        for (int n = 1; n <= 5; n++) {
            fault(0, times("d;", n) + "g", -1);
            CHECK.due("DISHES", Check.house(times("d;", n) + "g").count(1), n);
        }
        fault(0, "d;d;d;d;d;d;g", 10);
        fault(0, "g;dw1;d;d;d;d ; dw99", 16);
        CHECK.of("Terms: g (1 .. 6); FAULT: a seventh g at it, the length without a GUEST");
        fault(0, "d", 1);
        fault(0, "d;s;d", 5);
        for (int n = 1; n <= 6; n++) {
            fault(0, "d" + times(";g", n), -1);
            CHECK.due("GUESTS", Check.house("d" + times(";g", n)).count(0), n);
        }
        fault(0, "g;g;g;g;g;g;g;d", 12);
        fault(0, "d;g;g;g;g;g;g;g", 14);
        CHECK.of("Terms: all twelve CLAUSES; FAULT: a second s, a sixth d, a seventh g at it, behind blanks, too");
        String twelve = "d;s;d;d;d;d;g;g;g;g;g;g";
        fault(0, twelve, -1);
        fault(0, twelve + "  ", -1);
        for (String more : new String[] {"s", "d", "g"}) {
            fault(0, twelve + ";" + more, 24);
            fault(0, twelve + " ;  " + more, 27);
        }
        fault(0, twelve + "d", 23);
        CHECK.of("Terms: CLAUSES with ; between");
        fault(0, "dg", 1);
        fault(0, "d g", 2);
        fault(0, ";d;g", 0);
        fault(0, "d;;g", 2);
        fault(0, "d;g;", 4);
        fault(0, "d;g;;", 4);
        fault(0, "d:g", 1);
        fault(0, "d,g", 1);
    }

    private static void orderOfClauses() {
        CHECK.of("Terms: in any order");
        String[] orders = {"sh5;dw4;gp6", "sh5;gp6;dw4", "dw4;sh5;gp6", "dw4;gp6;sh5", "gp6;sh5;dw4", "gp6;dw4;sh5"};
        for (String order : orders) {
            GongHouse x = Check.house(order);
            CHECK.due("COLDER of " + order, x.rule(1), 5);
            CHECK.due("WARMTH of " + order, x.dish(0, 0), 4);
            CHECK.due("PAYS of " + order, Check.guest(x, 0, 3), 6);
        }
        GongHouse mixed = Check.house("gp1;dw1;gp2;dw2;s;gp3;dw3");
        for (int i = 0; i < 3; i++) {
            CHECK.due("GUESTS by numbers as they come", Check.guest(mixed, i, 3), i + 1);
            CHECK.due("DISHES by numbers as they come", mixed.dish(i, 0), i + 1);
        }
    }

    /** All numbers of one and two digits: what is within the bounds is told, the rest is wrong at its last digit. */
    private static void item(String ahead, String behind, char letter, int least, int most, int kind, int what) {
        for (int v = 0; v <= 99; v++) {
            number(ahead + letter, v < 10 ? "0" + v : "" + v, behind, v >= least && v <= most, kind, what);
            if (v < 10) {
                number(ahead + letter, "" + v, behind, v >= least && v <= most, kind, what);
            }
        }
    }

    private static void number(String ahead, String digits, String behind, boolean fits, int kind, int what) {
        String text = ahead + digits + behind;
        fault(0, text, fits ? -1 : ahead.length() + digits.length() - 1);
        if (fits) {
            CHECK.due(text + " tells", told(Check.house(text), kind, what), Integer.parseInt(digits));
        }
    }

    private static int told(GongHouse x, int kind, int what) {
        return kind == 0 ? x.rule(what) : kind == 1 ? x.dish(0, what) : Check.guest(x, 0, what);
    }

    private static void itemsOfRules() {
        CHECK.of("Terms: l the HAND (0 .. 3); FAULT: a number out of bounds at its last digit");
        item("s", ";d;g", 'l', 0, 3, 0, 0);
        CHECK.of("Terms: h how much COLDER (0 .. 9); FAULT: a number out of bounds at its last digit");
        item("s", ";d;g", 'h', 0, 9, 0, 1);
        CHECK.of("Terms: c COINS (0 .. 99)");
        item("s", ";d;g", 'c', 0, 99, 0, 2);
        CHECK.of("Terms: the HAND 1, COLDER 3, COINS 20 without");
        String[] without = {"d;g", "s;d;g"};
        for (String text : without) {
            GongHouse x = Check.house(text);
            CHECK.due("HAND of " + text, x.rule(0), 1);
            CHECK.due("COLDER of " + text, x.rule(1), 3);
            CHECK.due("COINS of " + text, x.rule(2), 20);
        }
        GongHouse one = Check.house("sh0;d;g");
        CHECK.due("HAND beside h", one.rule(0), 1);
        CHECK.due("COLDER of 0", one.rule(1), 0);
        CHECK.due("COINS beside h", one.rule(2), 20);
    }

    private static void itemsOfDishes() {
        CHECK.of("Terms: w WARMTH (0 .. 20); FAULT: a number out of bounds at its last digit");
        item("d", ";g", 'w', 0, 20, 1, 0);
        CHECK.of("Terms: c COST (0 .. 9); FAULT: a number out of bounds at its last digit");
        item("d", ";g", 'c', 0, 9, 1, 1);
        CHECK.of("Terms: k KIND (0 .. 3); FAULT: a number out of bounds at its last digit");
        item("d", ";g", 'k', 0, 3, 1, 2);
        CHECK.of("Terms: WARMTH 12, COST 2, KIND 0 without");
        GongHouse x = Check.house("dw1c3k2;d;g");
        CHECK.due("WARMTH", x.dish(1, 0), 12);
        CHECK.due("COST", x.dish(1, 1), 2);
        CHECK.due("KIND", x.dish(1, 2), 0);
    }

    private static void itemsOfGuests() {
        CHECK.of("Terms: a the DAY on which one comes (0 .. 20); FAULT: a number out of bounds at its last digit");
        item("d;g", "", 'a', 0, 20, 2, 0);
        CHECK.of("Terms: s how many DAYS one STAYS (1 .. 20); FAULT: a number out of bounds at its last digit");
        item("d;g", "", 's', 1, 20, 2, 1);
        CHECK.of("Terms: l the KIND that one LIKES (0 .. 3); FAULT: a number out of bounds at its last digit");
        item("d;g", "", 'l', 0, 3, 2, 2);
        CHECK.of("Terms: p what one PAYS a DAY (0 .. 9); FAULT: a number out of bounds at its last digit");
        item("d;g", "", 'p', 0, 9, 2, 3);
        CHECK.of("Terms: 0, 7, 0, 3 without");
        GongHouse x = Check.house("ga1s2l3p4;g;d");
        int[] usual = {0, 7, 0, 3};
        for (int what = 0; what < 4; what++) {
            CHECK.due("guest(1, " + what + ")", Check.guest(x, 1, what), usual[what]);
        }
        CHECK.of("Terms: JOY 0 at first; nobody LEFT");
        CHECK.due("JOY", Check.guest(x, 1, 4), 0);
        CHECK.due("LEFT", Check.guest(x, 1, 5), 0);
    }

    private static void digitsOfItems() {
        CHECK.of("Terms: a number (one or two digits); FAULT: a third digit (whatever stands ahead of it) itself");
        fault(0, "sl;d;g", 2);
        fault(0, "dw;g", 2);
        fault(0, "d;ga", 4);
        fault(0, "d;ga-1", 4);
        fault(0, "dw000;g", 4);
        fault(0, "dw012;g", 4);
        fault(0, "dw200;g", 4);
        fault(0, "dw999;g", 4);
        fault(0, "sl400;d;g", 4);
        fault(0, "sc100;d;g", 4);
        fault(0, "d;gs000", 6);
        fault(0, "d;gs001", 6);
        fault(0, "d;gp9999", 6);
    }

    private static void lettersOnce() {
        CHECK.of("Terms: ITEMS, each letter once at most in a CLAUSE; FAULT: a letter that was there at it");
        String[] letters = {"lhc", "wck", "aslp"};
        String[] heads = {"s", "d", "g"};
        for (int k = 0; k < heads.length; k++) {
            for (char letter : letters[k].toCharArray()) {
                fault(0, heads[k] + letter + "1" + letter + "1", 3);
                for (char other : letters[k].replace("" + letter, "").toCharArray()) {
                    fault(0, heads[k] + letter + "1" + other + "1" + letter + "1", 5);
                }
            }
            for (char letter = 1; letter < 256; letter++) {
                if (letters[k].indexOf(letter) < 0 && letter != ' ' && letter != ';') {
                    fault(0, heads[k] + letter + "1", 1);
                }
            }
        }
        CHECK.of("Terms: ITEMS, none or more, in any order, in each CLAUSE");
        fault(0, "sc1h2l3;dk1c2w3;gp1l2s3a4", -1);
        fault(0, "dw1;dw1;gs1;gs1;sl1", -1);
    }

    private static void endsTooEarly() {
        CHECK.of("FAULT: the length, if it ends too early");
        fault(0, "", 0);
        fault(1, "", 0);
        fault(2, "", 0);
        fault(0, " ", 1);
        fault(1, " ", 1);
        fault(2, " ", 1);
        fault(0, "s", 1);
        fault(0, "d;", 2);
        fault(0, "d;g; ", 5);
        fault(0, "d;gs", 4);
        fault(0, "d;gs ", 5);
        fault(1, "y", 1);
        fault(1, "y ", 2);
        fault(1, "y:", 2);
        fault(1, "y:!", 3);
        fault(1, "y:(", 3);
        fault(1, "y:[", 3);
        fault(1, "y:[1", 4);
        fault(1, "y:1+", 4);
        fault(1, "y:1*", 4);
        fault(1, "y:1=", 4);
        fault(1, "y:1=1", 5);
        fault(1, "y:1=1&", 6);
        fault(1, "y:1=1|", 6);
        fault(1, "y:1=1?", 6);
        fault(1, "y:(1=1", 6);
        fault(1, "y:(1=1)", 7);
        fault(1, "y:1;", 4);
        fault(1, "y:1;y", 5);
        fault(2, "c", 1);
        fault(2, "x", 1);
        fault(2, "x1", 2);
        fault(2, "x1 ", 3);
        fault(2, "d;", 2);
    }

    private static void blanks() {
        CHECK.of("Blanks (32) may stand between all signs");
        fault(0, "  s  l 1  h 2  c 30 ;  d  w 4  c 5  k 1 ;  g  a 6  s 7  l 2  p 8  ", -1);
        fault(1, "  y  :  !  (  w  =  12  |  l  <  3  &  f  >  4  )  ?  [  n  +  p  -  d  *  5  /  6  ]  ;  y : 1 ", -1);
        fault(2, "  d  ;  c 1  ;  i  ;  u  ;  x 1 2  ", -1);
        CHECK.of("Blanks: not within numbers");
        fault(0, "dw1 2;g", 4);
        fault(0, "d;gs2 0", 6);
        fault(0, "d;gs 0 1", 5);
        fault(1, "y:1 2", 4);
        fault(1, "y:123 4", 6);
        CHECK.of("Blanks: between digits of a STEP they may");
        fault(2, "x1 2", -1);
        fault(2, "x  1  2  ", -1);
        fault(2, "c  1", -1);
        fault(2, "x1 2 3", 5);
        CHECK.of("Blanks (32) alone");
        char[] others = {1, 9, 10, 11, 13, 31, 33, 95, 133, 160, 255};
        for (char other : others) {
            fault(0, "d" + other + ";g", 1);
            fault(1, "y" + other + ":1", 1);
            fault(2, "x" + other + "12", 1);
        }
    }

    /** Every byte that can come, ahead of all and behind a whole HOUSE. */
    private static void signsOfHouse() {
        CHECK.of("FAULT: the first byte at which no such TEXT can go on (HOUSE)");
        for (char sign = 1; sign < 256; sign++) {
            fault(0, "" + sign, "sdg ".indexOf(sign) >= 0 ? 1 : 0);
            fault(0, "d;g" + sign, sign == ' ' ? -1 : "aslp;".indexOf(sign) >= 0 ? 4 : 3);
            boolean digit = sign >= '0' && sign <= '9';
            fault(0, "d;ga1" + sign, digit || sign == ' ' ? -1 : "slp;".indexOf(sign) >= 0 ? 6 : 5);
        }
    }

    // ---- promise 4: LAWS ----

    private static void clausesOfLaw() {
        CHECK.of("Terms: LAWS: CLAUSES with ; between, one at least");
        fault(1, "", 0);
        fault(1, "y:1", -1);
        fault(1, "y:1;y:2", -1);
        fault(1, ";y:1", 0);
        fault(1, "y:1;;y:1", 4);
        fault(1, "y:1y:1", 3);
        fault(1, times("y:1;", 59) + "y:1", -1);
        fault(1, times("y:1;", 60), 240);
        CHECK.of("Terms: y, : , perhaps CONDITION ?, then SUM");
        fault(1, "1", 0);
        fault(1, "y1", 1);
        fault(1, "y::1", 2);
        fault(1, "y:?1", 2);
        fault(1, "y:1?1", 3);
        fault(1, "y:1=1?1", -1);
        fault(1, "y:1=1?1?1", 7);
        fault(1, "y:1=1?!1", 6);
        fault(1, "y:1=1?(1)", 6);
        fault(1, "y:1=1??1", 6);
    }

    private static void numbersOfLaw() {
        CHECK.of("Terms: a number (1 to 4 digits); FAULT: a fifth one in a LAW itself");
        fault(1, "y:+", 2);
        fault(1, "y:1+;", 4);
        fault(1, "y:0", -1);
        fault(1, "y:99", -1);
        fault(1, "y:000", -1);
        fault(1, "y:0000", -1);
        fault(1, "y:9999", -1);
        fault(1, "y:00000", 6);
        fault(1, "y:10000", 6);
        fault(1, "y:99999", 6);
        fault(1, "y:1+12345", 8);
        fault(1, "y:[12345]", 7);
        fault(1, "y:12345=1?1", 6);
        fault(1, "y:1=12345?1", 8);
        fault(1, "y:1=1?123456", 10);
    }

    /** So many of ( and ! as the bits of the pattern tell, then [ within them, all closed again. */
    private static String nested(int outer, int pattern, int inner) {
        StringBuilder text = new StringBuilder("y:");
        StringBuilder closing = new StringBuilder();
        for (int i = 0; i < outer; i++) {
            boolean not = (pattern >> i & 1) != 0;
            text.append(not ? "!" : "(");
            closing.append(not ? "" : ")");
        }
        return text + times("[", inner) + "1" + times("]", inner) + "=1" + closing + "?1";
    }

    private static void nesting() {
        CHECK.of("Terms: At most six of ( [ ! within one another; FAULT: a seventh at it");
        for (int outer = 0; outer <= 8; outer++) {
            for (int inner = 0; outer + inner <= 8; inner++) {
                for (int pattern = 0; pattern < 1 << outer; pattern++) {
                    fault(1, nested(outer, pattern, inner), outer + inner <= 6 ? -1 : 2 + 6);
                }
            }
        }
        fault(1, "y:[[[[[[1]]]]]]", -1);
        fault(1, "y:[[[[[[[1]]]]]]]", 8);
        fault(1, "y:[[[[[[ [", 9);
        fault(1, "y:1=[[[[[[[", 10);
        fault(1, "y:!!!!!!1=[", 10);
        fault(1, "y:1=1?[[[[[[[", 12);
        CHECK.of("Terms: within one another (those next to one another do not count)");
        fault(1, "y:[[[[[[1]]]]]]+[[[[[[1]]]]]]", -1);
        fault(1, "y:((((((1=1))))))&((((((1=1))))))|!!!!!!1=1&!!!!!!1=1?[[[[[[1]]]]]]", -1);
        fault(1, "y:[1]+[1]+[1]+[1]+[1]+[1]+[1]+[1]", -1);
        fault(1, "y:!1=1&!1=1&!1=1&!1=1&!1=1&!1=1&!1=1&!1=1?1", -1);
        fault(1, "y:((((([1]=1)))))?1;y:[[[[[[1]]]]]]", -1);
        fault(1, "y:((((([1]=[[1]])))))?1", 12);
    }

    private static void partsOfLaw() {
        CHECK.of("Terms: UNIT: ! UNIT, ( CONDITION ), or SUM, one of = < >, SUM");
        fault(1, "y:(1=1)?1", -1);
        fault(1, "y:(1=1)=1?1", 7);
        fault(1, "y:(1)?1", 4);
        fault(1, "y:(1+1)=1?1", 6);
        fault(1, "y:()?1", 3);
        fault(1, "y:!1?1", 4);
        fault(1, "y:1=1=1?1", 5);
        fault(1, "y:1==1?1", 4);
        fault(1, "y:1<=1?1", 4);
        fault(1, "y:1=(1)?1", 4);
        fault(1, "y:1=!1?1", 4);
        fault(1, "y:1&1=1?1", 3);
        fault(1, "y:1=?1", 4);
        fault(1, "y:1=&1=1?1", 4);
        fault(1, "y:(1=)?1", 5);
        fault(1, "y:!1=)?1", 5);
        fault(1, "y:1=1&?1", 6);
        fault(1, "y:1=1|?1", 6);
        fault(1, "y:(1=1&)?1", 7);
        fault(1, "y:(1=1|)?1", 7);
        fault(1, "y:1=1&|1=1?1", 6);
        fault(1, "y:1=1&&1=1?1", 6);
        CHECK.of("Terms: ATOM: a number, a letter, [ SUM ]");
        fault(1, "y:[]", 3);
        fault(1, "y:[1)", 4);
        fault(1, "y:[1+]", 5);
        fault(1, "y:[1*]", 5);
        fault(1, "y:1+=1?1", 4);
        fault(1, "y:1*=1?1", 4);
        fault(1, "y:[1=1]", 4);
        fault(1, "y:-1", 2);
        fault(1, "y:1--1", 4);
        fault(1, "y:1-+1", 4);
        fault(1, "y:1**1", 4);
        fault(1, "y:ww", 3);
        fault(1, "y:1w", 3);
        fault(1, "y:1[1]", 3);
        fault(1, "y:[1]1", 5);
        CHECK.of("Terms: (A CLAUSE that goes on with ! or ( behind its : has a CONDITION.)");
        fault(1, "y:(1=1)", 7);
        fault(1, "y:(1=1);", 7);
        fault(1, "y:!1=1", 6);
        fault(1, "y:!1=1;y:1", 6);
        fault(1, "y:(1=1)+1", 7);
    }

    /** Every byte that can come behind the :, behind a SUM and behind a CONDITION's second SUM. */
    private static void signsOfLaw() {
        CHECK.of("FAULT: the first byte at which no such TEXT can go on (LAW)");
        for (char sign = 1; sign < 256; sign++) {
            boolean digit = sign >= '0' && sign <= '9';
            fault(1, "" + sign, sign == 'y' || sign == ' ' ? 1 : 0);
            fault(1, "y:" + sign, digit || "wlfnpd".indexOf(sign) >= 0 ? -1 : "![( ".indexOf(sign) >= 0 ? 3 : 2);
            fault(1, "y:w" + sign, sign == ' ' ? -1 : "+-*/=<>;".indexOf(sign) >= 0 ? 4 : 3);
            fault(1, "y:1" + sign, digit || sign == ' ' ? -1 : "+-*/=<>;".indexOf(sign) >= 0 ? 4 : 3);
            fault(1, "y:w=w" + sign, "+-*/&|? ".indexOf(sign) >= 0 ? 6 : 5);
            fault(1, "y:(w=w" + sign, "+-*/&|) ".indexOf(sign) >= 0 ? 7 : 6);
            fault(1, "y:(w=w)" + sign, "&|? ".indexOf(sign) >= 0 ? 8 : 7);
            fault(1, "y:[w" + sign, sign == ']' ? -1 : "+-*/ ".indexOf(sign) >= 0 ? 5 : 4);
            fault(1, "y:w=w?w" + sign, sign == ' ' ? -1 : "+-*/;".indexOf(sign) >= 0 ? 8 : 7);
        }
    }

    // ---- Terms: what LAWS are worth ----

    /** What JOY this LAW gives on DAY 0: WARMTH 15, liked, one PORTION, PAYS 4. */
    private static void worth(String law, int want) {
        GongHouse x = Check.house("sl0;dw15;gp4");
        Check.rule(x, law);
        x.day();
        CHECK.due("JOY by " + law, Check.guest(x, 0, 4), want);
    }

    private static void boundsOfNumbers() {
        CHECK.of("Terms: Behind each sign numbers are within -1,000,000 .. 1,000,000");
        worth("y:1000*1000>999*1000+999?5;y:4", 5);
        worth("y:1000*1000-1=999*1000+999?5;y:4", 5);
        worth("y:1000*1000+1=1000*1000?5;y:4", 5);
        worth("y:1000*1000+1-1=1000*1000-1?5;y:4", 5);
        worth("y:1001*1000=1000*1000?5;y:4", 5);
        worth("y:9999*9999=1000*1000?5;y:4", 5);
        worth("y:9999*9999*9999*9999=1000*1000?5;y:4", 5);
        worth("y:1000*1000*10/10=1000*100?5;y:4", 5);
        worth("y:1000*1000+[1000*1000]=1000*1000?5;y:4", 5);
        worth("y:[0-1000]*1000<[0-999]*1000-999?5;y:4", 5);
        worth("y:[0-1000]*1000-1=[0-1000]*1000?5;y:4", 5);
        worth("y:[0-1000]*1000-1+1=[0-1000]*1000+1?5;y:4", 5);
        worth("y:[0-1001]*1000=[0-1000]*1000?5;y:4", 5);
        worth("y:[0-9999]*9999=0-1000*1000?5;y:4", 5);
        worth("y:[0-9999]*9999*[0-9999]=1000*1000?5;y:4", 5);
        worth("y:[0-1000]*1000*10/10=0-1000*100?5;y:4", 5);
        worth("y:0-1000*1000-[1000*1000]=0-1000*1000?5;y:4", 5);
        worth("y:1000*1000/[0-1]=0-1000*1000?5;y:4", 5);
    }

    private static void division() {
        CHECK.of("Terms: / cuts towards 0");
        worth("y:8/3", 2);
        worth("y:1/2", 0);
        worth("y:[0-8]/3", -2);
        worth("y:8/[0-3]", -2);
        worth("y:[0-8]/[0-3]", 2);
        worth("y:[0-1]/2", 0);
        worth("y:[0-9]/9", -1);
        CHECK.of("Terms: / by 0 gives 0");
        worth("y:7/0", 0);
        worth("y:0/0", 0);
        worth("y:[0-7]/0", 0);
        worth("y:7/[4-p]", 0);
        worth("y:5+7/0*3", 5);
    }

    private static void worth() {
        CHECK.of("Terms: WORTH: the SUM of the first CLAUSE whose CONDITION holds (or has none), 0 without");
        worth("y:1=2?5", 0);
        worth("y:1=2?5;y:2=3?6", 0);
        worth("y:1=1?5;y:2=2?6;y:7", 5);
        worth("y:1=2?5;y:2=2?6;y:7", 6);
        worth("y:1=2?5;y:2=3?6;y:7", 7);
        worth("y:7;y:1=1?5", 7);
        worth(times("y:w>15?1;", 26) + "y:7", 7);
        CHECK.of("Terms: one of = < >");
        int[][] pairs = {{3, 4}, {4, 4}, {5, 4}};
        int[][] holds = {{0, 1, 0}, {1, 0, 0}, {0, 0, 1}};
        for (int i = 0; i < 3; i++) {
            for (int k = 0; k < 3; k++) {
                worth("y:" + pairs[i][0] + "=<>".charAt(k) + pairs[i][1] + "?8;y:6", holds[i][k] == 1 ? 8 : 6);
            }
        }
        CHECK.of("Terms: TRUTHS with | between; UNITS with & between; ! UNIT");
        for (int bits = 0; bits < 8; bits++) {
            String a = (bits & 1) != 0 ? "1=1" : "1=2";
            String b = (bits & 2) != 0 ? "2=2" : "2=1";
            String c = (bits & 4) != 0 ? "3=3" : "3=1";
            boolean ta = (bits & 1) != 0;
            boolean tb = (bits & 2) != 0;
            boolean tc = (bits & 4) != 0;
            worth("y:" + a + "|" + b + "&" + c + "?8;y:6", ta || tb && tc ? 8 : 6);
            worth("y:" + a + "&" + b + "|" + c + "?8;y:6", ta && tb || tc ? 8 : 6);
            worth("y:(" + a + "|" + b + ")&" + c + "?8;y:6", (ta || tb) && tc ? 8 : 6);
            worth("y:!" + a + "&" + b + "|" + c + "?8;y:6", !ta && tb || tc ? 8 : 6);
            worth("y:!(" + a + "&!" + b + ")|" + c + "?8;y:6", !(ta && !tb) || tc ? 8 : 6);
        }
        CHECK.of("Terms: ! and & and | of each of = < >");
        for (String holding : new String[] {"2=2", "1<2", "2>1"}) {
            worth("y:!" + holding + "?8;y:6", 6);
            worth("y:!!" + holding + "?8;y:6", 8);
            for (String other : new String[] {"3=3", "3<4", "4>3"}) {
                worth("y:" + holding + "&" + other + "?8;y:6", 8);
                worth("y:!" + holding + "|" + other + "?8;y:6", 8);
                worth("y:" + holding + "&!" + other + "?8;y:6", 6);
            }
        }
        CHECK.of("Terms: TERMS with + or - between; ATOMS with * or / between");
        worth("y:9-4-3", 2);
        worth("y:9-[4-3]", 8);
        worth("y:2+3*4-5", 9);
        worth("y:[2+3]*2", 10);
        worth("y:16/4/2", 2);
        worth("y:16/[4/2]", 8);
        worth("y:7/2*2", 6);
        worth("y:w-p*2+l+f+n+d", 15 - 8 + 1 + 1);
        CHECK.of("Terms: At most six of ( [ ! within one another: what the deepest are worth");
        worth("y:1+1*[1+1*[1+1*[1+1*[1+1*[1+1*[1+1*1]]]]]]", 8);
        worth("y:9-[9-[9-[9-[9-[9-[9-4]]]]]]", 5);
        worth("y:1=2|1=1&(1=2|1=1&(1=2|1=1&(1=2|1=1&(1=2|1=1&(1=2|1=1&(1=2|1=1&2+1*3=9-2*2))))))?8;y:6", 8);
        worth("y:1=2|1=1&(1=2|1=1&(1=2|1=1&(1=2|1=1&(1=2|1=1&(1=2|1=1&(1=2|1=1&2+1*3=9-2*3))))))?8;y:6", 6);
        worth("y:!!!!!!w=15?8;y:6", 8);
        worth("y:!!!!!w=15?8;y:6", 6);
        worth("y:!(!(!(w=15)))?8;y:6", 6);
        worth("y:1+1*1=9-1*[7+1*[2-1*[2-1*[2-1*[2-1*[2-1]]]]]]?8;y:6", 6);
    }

    // ---- promises 4, 5 and 20: WEEKS ----

    private static void stepsOfWeek() {
        CHECK.of("Terms: STEPS with ; between, 1 to 16; FAULT: the ; ahead of a 17th STEP");
        fault(2, "", 0);
        fault(2, "d", -1);
        fault(2, SIXTEEN.substring(2), -1);
        fault(2, SIXTEEN, -1);
        fault(2, SIXTEEN + "   ", -1);
        fault(2, SIXTEEN + ";d", 31);
        fault(2, SIXTEEN + ";", 31);
        fault(2, SIXTEEN + "  ;d", 33);
        fault(2, SIXTEEN + ";z", 31);
        fault(2, SIXTEEN + "d", 31);
        fault(2, times("x12;", 15) + "x12", -1);
        fault(2, times("x12;", 16) + "x12", 63);
        fault(2, ";d", 0);
        fault(2, "d;;d", 2);
        fault(2, "dd", 1);
        CHECK.of("P20: a STEP of a WEEK (sixteen of them)");
        GongHouse x = new GongHouse();
        Check.week(x, times("x12;", 15) + "x98");
        CHECK.due("the 16th", x.step(0, 15, 1), 9);
        CHECK.due("the 16th", x.step(0, 15, 2), 8);
        CHECK.due("a 17th", x.step(0, 16, 0), HIDDEN);
    }

    private static void digitsOfSteps() {
        CHECK.of("Terms: c and a digit; x and two digits; d, i, u none");
        for (String letter : new String[] {"d", "i", "u"}) {
            fault(2, letter, -1);
            fault(2, letter + "0", 1);
        }
        fault(2, "c;d", 1);
        fault(2, "cd", 1);
        fault(2, "c10", 2);
        fault(2, "x;d", 1);
        fault(2, "x1;d", 2);
        fault(2, "xd1", 1);
        fault(2, "x123", 3);
        CHECK.of("FAULT: (What a STEP tells that is not there is no FAULT: the STEP can't be.)");
        for (int a = 0; a <= 9; a++) {
            fault(2, "c" + a, -1);
            for (int b = 0; b <= 9; b++) {
                fault(2, "x" + a + b, -1);
            }
        }
        String[] cannot = {"c1", "c9", "x10", "x11", "x99", "x00", "u;u", "i;i;i"};
        int[] behind = {0, 0, 0, 0, 0, 0, 1, 2};
        for (int i = 0; i < cannot.length; i++) {
            GongHouse x = Check.house("d;g");
            Check.week(x, cannot[i]);
            CHECK.due("run of " + cannot[i], x.run(0, 0), behind[i]);
        }
    }

    private static void signsOfWeek() {
        CHECK.of("FAULT: the first byte at which no such TEXT can go on (WEEK)");
        for (char sign = 1; sign < 256; sign++) {
            boolean digit = sign >= '0' && sign <= '9';
            fault(2, "" + sign, "diu".indexOf(sign) >= 0 ? -1 : "cx ".indexOf(sign) >= 0 ? 1 : 0);
            fault(2, "d" + sign, sign == ' ' ? -1 : sign == ';' ? 2 : 1);
            fault(2, "c" + sign, digit ? -1 : sign == ' ' ? 2 : 1);
            fault(2, "x" + sign, digit || sign == ' ' ? 2 : 1);
            fault(2, "x0" + sign, digit ? -1 : sign == ' ' ? 3 : 2);
        }
    }

    private static void stepsAskedFor() {
        CHECK.of("P20: 0 what (0 d, 1 c, 2 i, 3 u, 4 x), 1 its digit (NONE), 2 the second one (NONE)");
        GongHouse x = new GongHouse();
        Check.week(x, "x09;u;i;c0;d;c9;x90");
        Check.week(x, "d");
        int[][] want = {{4, 0, 9}, {3, -1, -1}, {2, -1, -1}, {1, 0, -1}, {0, -1, -1}, {1, 9, -1}, {4, 9, 0}};
        for (int i = 0; i < want.length; i++) {
            for (int what = 0; what < 3; what++) {
                CHECK.due("step(0, " + i + ", " + what + ")", x.step(0, i, what), want[i][what]);
            }
        }
        CHECK.of("P20: HIDDEN: no such ones");
        int[] wrongWeeks = {-1, 2, 3, 4, LOWEST, HIGHEST};
        for (int week : wrongWeeks) {
            CHECK.due("step(" + week + ", 0, 0)", x.step(week, 0, 0), HIDDEN);
        }
        int[] wrongSteps = {-1, 7, 16, LOWEST, HIGHEST};
        for (int i : wrongSteps) {
            CHECK.due("step(0, " + i + ", 0)", x.step(0, i, 0), HIDDEN);
        }
        CHECK.due("the WEEK of one STEP has no second", x.step(1, 1, 0), HIDDEN);
        int[] wrongWhats = {-1, 3, LOWEST, HIGHEST};
        for (int what : wrongWhats) {
            CHECK.due("step(0, 0, " + what + ")", x.step(0, 0, what), HIDDEN);
        }
    }

    // ---- promise 5 ----

    private static void fourTexts() {
        CHECK.of("P5: a LAW, a WEEK: its number; LAWS (4 at most), WEEKS (4 at most); NONE: there are four");
        for (int sort = 1; sort <= 2; sort++) {
            GongHouse x = new GongHouse();
            String[] texts = {"y:1", "d"};
            for (int i = 0; i < 4; i++) {
                CHECK.due("count", x.count(1 + sort), i);
                Check.tape(x, texts[sort - 1]);
                CHECK.due("text(" + sort + ")", x.text(sort), i);
                CHECK.due("The TAPE (empty then)", x.count(4), 0);
            }
            Check.tape(x, texts[sort - 1]);
            CHECK.due("no FAULT", x.fault(sort), -1);
            CHECK.due("a fifth one", x.text(sort), -1);
            CHECK.due("four", x.count(1 + sort), 4);
            CHECK.due("none of the others", x.count(4 - sort), 0);
            CHECK.due("The TAPE is as it was", x.count(4), texts[sort - 1].length());
            Check.tape(x, texts[2 - sort]);
            CHECK.due("the other sort has room", x.text(3 - sort), 0);
            Check.tape(x, "d;g");
            CHECK.due("so has a HOUSE", x.text(0), 1);
        }
        CHECK.of("P5: NONE: a FAULT, no such sort");
        GongHouse y = new GongHouse();
        Check.tape(y, "d;g");
        int[] wrong = {1, 2, -1, 3, LOWEST, HIGHEST};
        for (int sort : wrong) {
            CHECK.due("text(" + sort + ")", y.text(sort), -1);
            CHECK.due("bytes", y.count(4), 3);
        }
        CHECK.due("no LAW, no WEEK", y.count(2) + y.count(3), 0);
        CHECK.due("nothing at all", Check.tape(y, "") + y.text(0) + y.text(1) + y.text(2), -3);
        CHECK.of("P5: how many GUESTS");
        for (int n = 1; n <= 6; n++) {
            Check.tape(y, "d" + times(";g", n));
            CHECK.due("text(0)", y.text(0), n);
        }
    }

    private static void anotherHouse() {
        CHECK.of("P5: DAY 0, nothing COOKED; all that was of another one, SEEN, too, is gone");
        GongHouse x = Check.house("sl1c30;d;dk1;g;g;g");
        Check.rule(x, "y:0-9");
        Check.rule(x, "y:p");
        Check.week(x, "d;i");
        x.law(0);
        x.fever(0);
        Check.days(x, 2);
        x.image();
        x.ill();
        x.choose(1);
        x.stay(2, 1);
        x.seen(0, 0, 1, 1, true);
        CHECK.due("all LEFT", x.count(8), 7);
        Check.tape(x, "sl2;d;d;gs20;ga9");
        CHECK.due("another", x.text(0), 2);
        int[] counts = {2, 2, 2, 1, 0, 0, 0, 0, 0, 0, 0, 0, 0};
        for (int what = 0; what < counts.length; what++) {
            CHECK.due("count(" + what + ")", x.count(what), counts[what]);
        }
        CHECK.due("no ACT", x.undo(), -1);
        CHECK.due("no IMAGE", x.back(), -1);
        CHECK.due("no LOG", x.log(0, 2), HIDDEN);
        CHECK.due("nothing is SERVED on this DAY", x.serves(0, 0), -1);
        CHECK.due("nor on the next", x.serves(1, 0), -1);
        CHECK.due("nothing is CHOSEN", x.all(9), 0);
        CHECK.due("HAND", x.rule(0), 2);
        CHECK.due("COINS", x.rule(2), 20);
        CHECK.due("a GUEST of the other one", Check.guest(x, 2, 0), -1000);
        CHECK.due("he may LIKE all", x.likes(0), 15);
        CHECK.of("P5: DISHES and GUESTS of another one are gone");
        GongHouse fewer = Check.house("dk0;dk1w20c0;dk2w20c0;gp9s20;gp9s20l1;gp9s20");
        Check.tape(fewer, "dk3w5c9;gl1p0s3");
        CHECK.due("one GUEST", fewer.text(0), 1);
        for (int what = 0; what < 6; what++) {
            CHECK.due("the first of all(" + what + ")", fewer.all(what), 0);
        }
        CHECK.due("KINDS", fewer.kinds(0) + fewer.kinds(1) + fewer.kinds(2), 0);
        CHECK.due("LAST", fewer.all(7), 2);
        CHECK.due("TAKES", fewer.all(8), 0);
        CHECK.due("a row of the one DISH", fewer.best(3, 0), 0);
        CHECK.due("SEEN", fewer.seen(0, 0, 9, 6, false), 1);
        CHECK.due("0, 1, 2 are left", fewer.likes(0), 7);
        CHECK.due("one DISH to TRY", fewer.probe(0, 9, 6), 0);
        CHECK.due("a second", fewer.choose(1), -2);
        CHECK.of("P5: gone but LAWS, which holds, WEEKS, FEVER");
        CHECK.due("the LAW that holds gives -9", x.leaves(0), 2);
        CHECK.due("the other LAW", x.law(1), true);
        CHECK.due("gives 3", x.best(1, 1), 12);
        CHECK.due("the WEEK", x.run(0, 0), -1);
        CHECK.due("FEVER is so", x.fever(0), false);
    }
}
