/** Promises 1 to 5 and 20: a new object, the tape, texts and their faults, steps. */
public final class TextTest {
    private static final Check CHECK = new Check("TextTest");

    public static void main(String[] args) {
        newObject();
        tape();
        faultsOfHouses();
        faultsOfLaws();
        faultsOfWeeks();
        textsAreTaken();
        steps();
        CHECK.finish();
    }

    private static void newObject() {
        GongHouse x = new GongHouse();
        int[] counts = {0, 0, 0, 0, 0, -1, 0, 0, 0, 1, 0, 0, 0};
        for (int what = 0; what < counts.length; what++) {
            CHECK.due("new count " + what, x.count(what), counts[what]);
        }
        CHECK.due("new rule", x.rule(0), -1);
        CHECK.due("new guest", Check.guest(x, 0, 0), -1000);
        CHECK.due("new back", x.back(), -1);
    }

    private static void tape() {
        GongHouse x = new GongHouse();
        CHECK.due("feed leaves out 0", x.feed(0x64000067, 0, 0x00003b00, 0, 0x01), 4);
        CHECK.due("feed of high bytes", x.feed(-1, 0x80000000, 0, 0, 0), 9);
        CHECK.due("end above", x.end(10), false);
        CHECK.due("end below", x.end(-1), false);
        CHECK.due("still", x.count(4), 9);
        CHECK.due("end at length", x.end(9), true);
        CHECK.due("end 2", x.end(2), true);
        CHECK.due("two", x.count(4), 2);
        CHECK.due("cut tape", x.fault(2), 1);
        x.end(0);
        int all = 0x64646464;
        for (int i = 1; i <= 12; i++) {
            CHECK.due("feed " + i, x.feed(all, all, all, all, all), 20 * i);
        }
        CHECK.due("feed of nothing when full", x.feed(0, 0, 0, 0, 0), 240);
        CHECK.due("feed beyond 240", x.feed(0, 0, 0, 0, 1), -1);
        CHECK.due("as it was", x.count(4), 240);
        x.end(239);
        CHECK.due("two are too many", x.feed(1, 1, 0, 0, 0), -1);
        CHECK.due("nothing came", x.count(4), 239);
        CHECK.due("one fits", x.feed(0, 0, 1, 0, 0), 240);
        x.end(239);
        for (int k = 0; k < 5; k++) {
            CHECK.due("two in number " + k, x.feed(k == 0 ? 257 : 0, k == 1 ? 257 : 0, k == 2 ? 257 : 0,
                k == 3 ? 257 : 0, k == 4 ? 257 : 0), -1);
        }
        CHECK.due("all five count", x.feed(1, 1, 1, 1, 1), -1);
        CHECK.due("fault does not empty", x.fault(0), 1);
        CHECK.due("tape is there", x.count(4), 239);
    }

    private static void fault(int sort, String text, int want) {
        GongHouse x = new GongHouse();
        Check.tape(x, text);
        CHECK.due("fault(" + sort + ") of '" + text + "'", x.fault(sort), want);
        CHECK.due("text(" + sort + ") of '" + text + "'", x.text(sort) == -1, want != -1);
        CHECK.due("tape behind '" + text + "'", x.count(4), want == -1 ? 0 : text.length());
    }

    private static void faultsOfHouses() {
        fault(0, "", 0);
        fault(0, "   ", 3);
        fault(0, "d;g", -1);
        fault(0, "g;s;d", -1);
        fault(0, " s l 3 h 9 c 99 ; d w 20 c 9 k 3 ; g a 20 s 20 l 3 p 9 ", -1);
        fault(0, "sc99h9l3;dk3w20c9;gp9l3s20a20", -1);
        fault(0, "sl00;dw00;gs01", -1);
        fault(0, "sl0h0c0;dw0c0k0;ga0s1l0p0", -1);
        fault(0, "sh10;d;g", 3);
        fault(0, "sc100;d;g", 4);
        fault(0, "dw21;g", 3);
        fault(0, "dc10;g", 3);
        fault(0, "dk4;g", 2);
        fault(0, "d;ga21", 5);
        fault(0, "d;gs21", 5);
        fault(0, "d;gl4", 4);
        fault(0, "d;gp10", 5);
        fault(0, "d ", 2);
        fault(0, "s;d;", 4);
        fault(0, "dw", 2);
        fault(0, "dw ;g", 3);
        fault(0, "dww", 2);
        fault(0, "dw1 2;g", 4);
        fault(0, "dw1w;g", 3);
        fault(0, "sl4;d;g", 2);
        fault(0, "sl40;d;g", 3);
        fault(0, "sl400;d;g", 4);
        fault(0, "dw99;g", 3);
        fault(0, "dw999;g", 4);
        fault(0, "dw000;g", 4);
        fault(0, "d;gs00", 5);
        fault(0, "d;gs0;", 4);
        fault(0, "d;ga5a5", 5);
        fault(0, "d;gk1", 3);
        fault(0, "d g", 2);
        fault(0, "d;;g", 2);
        fault(0, ";d;g", 0);
        fault(0, "d;g;s;s", 6);
        fault(0, "d;g;s;", 6);
        fault(0, "d;g" + (char) 200, 3);
        fault(0, "d;g\t", 3);
        fault(0, "D;g", 0);
        fault(0, "s;d;d;d;d;d;g;g;g;g;g;g", -1);
        fault(0, "s;d;d;d;d;d;g;g;g;g;g;g;g", 24);
        fault(0, "s;d;d;d;d;d;g;g;g;g;g;g;", 24);
        fault(0, "g;d;d;d;d;d;d", 12);
        faultsBehindBlanks();
    }

    /** A blank is never wrong itself, even where no clause, step or sign of its sort can come any more. */
    private static void faultsBehindBlanks() {
        String full = "s;d;d;d;d;d;g;g;g;g;g;g";
        fault(0, full + "  ", -1);
        fault(0, full + " ;", 25);
        fault(0, full + "; ", 25);
        fault(0, full + "; d", 25);
        fault(0, full + ";  g", 26);
        fault(0, full + "; s", 25);
        fault(0, full + "; ;", 25);
        fault(0, full + "; z", 25);
        fault(0, full + " ; " + (char) 160, 26);
        fault(0, full + " z", 24);
        fault(0, "s;d;g; s", 7);
        fault(0, "g;d;d;d;d;d; d", 13);
        fault(0, "d;g;g;g;g;g;g; g", 15);
        fault(0, "sl1 l2;d;g", 4);
        fault(0, "sl 4 ;d;g", 3);
        fault(0, "d w  ", 5);
        fault(1, "y:[[[[[[ [1", 9);
        fault(1, "y:((((((  !w=1", 10);
        fault(1, "y:!!!!!! w= [1]?1", 12);
        fault(1, "y:(w=1) ;", 8);
        fault(1, "y:1+ ", 5);
        fault(2, "d;d;d;d;d;d;d;d;d;d;d;d;d;d;d;d ", -1);
        fault(2, "d;d;d;d;d;d;d;d;d;d;d;d;d;d;d;d ; d", 32);
        fault(2, "x 1 ;", 4);
        fault(2, "c 1 2", 4);
    }

    private static void faultsOfLaws() {
        fault(1, "", 0);
        fault(1, "y", 1);
        fault(1, "y:", 2);
        fault(1, "y:1", -1);
        fault(1, "y:1;", 4);
        fault(1, "y:1;y:2", -1);
        fault(1, "y:w+l-f*n/p+d", -1);
        fault(1, " y : [ w + 1 ] * 2 ", -1);
        fault(1, "y:(w=1)?1", -1);
        fault(1, "y:!w=1&(l=1|f>2)?[1-2]", -1);
        fault(1, "y:w", -1);
        fault(1, "y:w?1", 3);
        fault(1, "y:w=1", 5);
        fault(1, "y:w=1;", 5);
        fault(1, "y:w=1?", 6);
        fault(1, "y:w=1=1", 5);
        fault(1, "y:w=1?1?1", 7);
        fault(1, "y:w=1?1=1", 7);
        fault(1, "y:w&1", 3);
        fault(1, "y:(w)?1", 4);
        fault(1, "y:(w=1?1", 6);
        fault(1, "y:(w=1)", 7);
        fault(1, "y:(w=1)=1?1", 7);
        fault(1, "y:(w=1)+1", 7);
        fault(1, "y:[w=1]", 4);
        fault(1, "y:[w)", 4);
        fault(1, "y:[w", 4);
        fault(1, "y:-1", 2);
        fault(1, "y:1+-1", 4);
        fault(1, "y:w=!1", 4);
        fault(1, "y:w=(1)", 4);
        fault(1, "y:w=1?(1", 6);
        fault(1, "y:1 2", 4);
        fault(1, "y:0000", -1);
        fault(1, "y:00001", 6);
        fault(1, "y:9999+99999", 11);
        fault(1, "y:wl", 3);
        fault(1, "z:1", 0);
        fault(1, "y1", 1);
        fault(1, "y:[[[[[[1]]]]]]", -1);
        fault(1, "y:[[[[[[[1]]]]]]]", 8);
        fault(1, "y:((((((w=1))))))?1", -1);
        fault(1, "y:(((((((w=1", 8);
        fault(1, "y:!(!(!(w=1)))?1", -1);
        fault(1, "y:!(!(!([", 8);
        fault(1, "y:!!!!!!w=[1]?1", 10);
        fault(1, "y:!!!!!w=[1]?[[[[[[1]]]]]]", -1);
        fault(1, "y:!!!!!!w=1&!!!!!!w=1|!!!!!!(", 28);
    }

    private static void faultsOfWeeks() {
        fault(2, "", 0);
        fault(2, "  ", 2);
        fault(2, "d;i;u;c0;x99", -1);
        fault(2, " x 1 2 ; c 3 ", -1);
        fault(2, "c12", 2);
        fault(2, "x1;d", 2);
        fault(2, "x123", 3);
        fault(2, "d d", 2);
        fault(2, "d;;", 2);
        fault(2, "g", 0);
        fault(2, "d;d;d;d;d;d;d;d;d;d;d;d;d;d;d;d", -1);
        fault(2, "d;d;d;d;d;d;d;d;d;d;d;d;d;d;d;d;", 31);
        fault(2, "d;d;d;d;d;d;d;d;d;d;d;d;d;d;d;dd", 31);
    }

    private static void textsAreTaken() {
        GongHouse x = new GongHouse();
        Check.tape(x, "d");
        CHECK.due("no such sort", x.fault(-1), -2);
        CHECK.due("no such sort", x.fault(3), -2);
        CHECK.due("no such sort", x.text(-1), -1);
        CHECK.due("tape stays", x.count(4), 1);
        for (int i = 0; i < 4; i++) {
            CHECK.due("week " + i, Check.week(x, "d"), i);
            Check.tape(x, "y:" + i);
            CHECK.due("law " + i, x.text(1), i);
        }
        Check.tape(x, "d");
        CHECK.due("a fifth week", x.text(2), -1);
        CHECK.due("without a fault", x.fault(2), -1);
        Check.tape(x, "y:1");
        CHECK.due("a fifth law", x.text(1), -1);
        CHECK.due("tape is as it was", x.count(4), 3);
        x.law(2);
        x.fever(5);
        Check.tape(x, "d;g;g;g");
        CHECK.due("guests", x.text(0), 3);
        x.seen(0, 0, 0, 0, true);
        x.choose(0);
        x.image();
        Check.days(x, 2);
        Check.tape(x, "sl2;d;d;g");
        CHECK.due("another house", x.text(0), 1);
        int[] counts = {1, 2, 4, 4, 0, 2, 0, 0, 0, 5, 0, 0, 0};
        for (int what = 0; what < counts.length; what++) {
            CHECK.due("count " + what + " in another house", x.count(what), counts[what]);
        }
        CHECK.due("no image of this house", x.back(), -1);
        CHECK.due("no act of this house", x.undo(), -1);
        CHECK.due("no log of this house", x.log(0, 0), -1000000);
        CHECK.due("nothing chosen", x.choose(1), -1);
        CHECK.due("nothing cooked", x.serves(1, 0), -1);
        CHECK.due("hand", x.rule(0), 2);
    }

    private static void steps() {
        GongHouse x = new GongHouse();
        Check.week(x, "d;c7;i;u;x30");
        int[][] want = {{0, -1, -1}, {1, 7, -1}, {2, -1, -1}, {3, -1, -1}, {4, 3, 0}};
        for (int i = 0; i < want.length; i++) {
            for (int what = 0; what < 3; what++) {
                CHECK.due("step " + i + " " + what, x.step(0, i, what), want[i][what]);
            }
        }
        CHECK.due("no such step", x.step(0, 5, 0), -1000000);
        CHECK.due("no such step", x.step(0, -1, 0), -1000000);
        CHECK.due("no such week", x.step(1, 0, 0), -1000000);
        CHECK.due("no such week", x.step(-1, 0, 0), -1000000);
        CHECK.due("no such what", x.step(0, 0, 3), -1000000);
        CHECK.due("no such what", x.step(0, 0, -1), -1000000);
        Check.tape(x, "x1");
        x.fault(2);
        CHECK.due("a fault leaves weeks alone", x.step(0, 1, 1), 7);
    }
}
