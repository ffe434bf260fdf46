/** Promises 21 and 23 to 37: what is asked apart, which changes nothing. */
public final class AsksTest {
    private static final int HIDDEN = -1000000;
    private static final Check CHECK = new Check("AsksTest");

    public static void main(String[] args) {
        runs();
        serves();
        there();
        fed();
        best();
        madeUp();
        sights();
        sightsByLaws();
        leaves();
        games();
        rests();
        odds();
        firsts();
        ofTheDay();
        mustardAndFull();
        kindsAndStaying();
        CHECK.finish();
    }

    private static void runs() {
        GongHouse x = Check.house("sl1c12;d;dw3k1;g;g");
        Check.week(x, "d;d;d");
        Check.week(x, "d;c7;d");
        Check.week(x, "u;d");
        Check.week(x, "x19;x19;x19;x19;x19;x19;x19;x19;x19;x19;x12;x11");
        CHECK.due("all can be", x.run(0, 0), -1);
        CHECK.due("joy: nothing, 6, 0", x.run(0, 1), 2 * (-2 + 6 + 0));
        CHECK.due("the second can't be", x.run(1, 0), 1);
        CHECK.due("joy up to there", x.run(1, 1), -4);
        CHECK.due("made up", x.run(2, 1), 14);
        CHECK.due("the tenth is the 97th day", x.run(3, 0), 11);
        GongHouse longer = Check.house("d;gs2;g");
        Check.week(longer, "x01;d;d;d;x03;d;d;d");
        CHECK.due("-2 and six, five times; the other alike", longer.run(0, 1), 2 * (-2 + 6 * 5));
        CHECK.due("nothing changed", x.count(6) + x.count(12) + x.count(11) + x.count(7), 0);
        CHECK.due("no such week", x.run(4, 0), HIDDEN);
        CHECK.due("no such week", x.run(-1, 0), HIDDEN);
        CHECK.due("no such what", x.run(0, 2), HIDDEN);
        CHECK.due("no such what", x.run(0, -1), HIDDEN);
        GongHouse late = Check.house("d;g");
        Check.week(late, "d;d;d");
        late.fever(0);
        for (int i = 0; i < 33; i++) {
            late.years(30, i);
        }
        late.years(8, 1);
        CHECK.due("no day behind 999", late.run(0, 0), 1);
        GongHouse none = new GongHouse();
        Check.week(none, "d");
        CHECK.due("no house", none.run(0, 0), HIDDEN);
    }

    private static void serves() {
        GongHouse x = Check.house("sl2h5;dw20;dw4k1;dw11;gs3;ga1s2");
        CHECK.due("nothing today", x.serves(0, 0), -1);
        CHECK.due("nothing today", x.serves(0, 1), -1);
        CHECK.due("nothing today", x.serves(0, 2), -1);
        CHECK.due("nothing tomorrow", x.serves(1, 0), -1);
        int[][] want = {{0, 10, 1}, {1, 0, 2}, {2, 1, 2}, {0, 10, 0}};
        for (int n = 2; n < 6; n++) {
            for (int what = 0; what < 3; what++) {
                CHECK.due("serves(" + n + ", " + what + ")", x.serves(n, what), want[n - 2][what]);
            }
        }
        CHECK.due("in 20", x.serves(20, 0), 0);
        CHECK.due("in 21", x.serves(21, 0), -1);
        CHECK.due("in -1", x.serves(-1, 0), -1);
        CHECK.due("no such what", x.serves(2, 3), -1);
        CHECK.due("no such what", x.serves(2, -1), -1);
        x.choose(2);
        CHECK.due("what is chosen", x.serves(2, 0), 2);
        CHECK.due("for this day alone", x.serves(5, 0), 0);
        GongHouse warm = Check.house("sl0;dw7;g");
        CHECK.due("at once", warm.serves(0, 1), 7);
        CHECK.due("at once", warm.serves(0, 2), 1);
    }

    private static void there() {
        GongHouse x = Check.house("d;gs2;ga1s3;ga9");
        int[] want = {1, 3, 2, 2, 0, 0, 0, 0, 0, 4};
        for (int n = 0; n < want.length; n++) {
            CHECK.due("there(" + n + ")", x.there(n), want[n]);
        }
        CHECK.due("there(20)", x.there(20), 0);
        CHECK.due("there(21)", x.there(21), -1);
        CHECK.due("there(-1)", x.there(-1), -1);
        Check.rule(x, "y:[0-9]");
        CHECK.due("one who leaves on the way is not there", x.there(3), 0);
        CHECK.due("nobody left", x.count(8), 0);
    }

    private static void fed() {
        GongHouse x = Check.house("d;ga1;g;ga1");
        CHECK.due("not there", x.fed(0), -1);
        CHECK.due("nothing", x.fed(1), 0);
        CHECK.due("no such", x.fed(3), -1);
        CHECK.due("no such", x.fed(-1), -1);
        x.day();
        CHECK.due("not he", x.fed(0), 0);
        CHECK.due("he", x.fed(1), 1);
        CHECK.due("nor he", x.fed(2), 0);
        CHECK.due("nothing for those", x.all(10), 5);
    }

    private static void best() {
        GongHouse x = Check.house("sl0;dw3;dw12k1;dw12;gs20;gs20l1");
        // A dish of warmth 12 gives 4 and 7; those by the day give 1 + 4, 7 + 4, 7 + 4.
        CHECK.due("best row of 1", x.best(1, 0), 1);
        CHECK.due("its joy", x.best(1, 1), 11 + 11 + 11 + 5);
        CHECK.due("best row of 2", x.best(2, 0), 11);
        CHECK.due("its joy", x.best(2, 1), 22 + 11 + 5 + 11);
        CHECK.due("best row of 3", x.best(3, 0), 111);
        CHECK.due("its joy", x.best(3, 1), 33 + 5 + 11 + 11);
        x.choose(2);
        CHECK.due("whatever was chosen", x.best(1, 0), 1);
        CHECK.due("n", x.best(0, 0), HIDDEN);
        CHECK.due("n", x.best(4, 0), HIDDEN);
        CHECK.due("no such what", x.best(1, 2), HIDDEN);
        CHECK.due("no such what", x.best(1, -1), HIDDEN);
        CHECK.due("nothing changed", x.count(12), 1);
        GongHouse late = Check.house("sl1;dw3;dw12k1;g");
        late.day();
        CHECK.due("joy that is there counts", late.best(1, 1), -2 + 3 + 3 + 3 + 3);
        CHECK.due("chosen is eaten a day later", late.best(1, 0), 0);
        GongHouse bottom = Check.house("d;g");
        CHECK.due("a row of first dishes is 0", bottom.best(3, 0), 0);
    }

    private static void madeUp() {
        GongHouse x = Check.house("sl3h3c0;dw15;dw20;dw2;g");
        Check.days(x, 3);
        // Hand 3: dish 0, 6; hand 2: dish 1, 14; hand 1: dish 2, 0; hand 0: dish 0, 15.
        int[] want = {0, 0, 0, 0, 0, 0, 0, 1, 1, 1, 1, 1, 1, 1, 1, 3, -1};
        for (int v = 0; v < want.length; v++) {
            CHECK.due("madeUp(" + v + ")", x.madeUp(v), want[v]);
        }
        CHECK.due("madeUp(20)", x.madeUp(20), -1);
        CHECK.due("madeUp(21)", x.madeUp(21), -1);
        CHECK.due("madeUp(-1)", x.madeUp(-1), -1);
        CHECK.due("hand as it is", x.rule(0), 3);
        CHECK.due("20 can be", Check.house("sl0;dw20;g").madeUp(20), 0);
        CHECK.due("no house", new GongHouse().madeUp(0), -1);
        GongHouse first = Check.house("sl3;d;g");
        CHECK.due("nothing is served but by today's", first.madeUp(0), 3);
    }

    private static void sights() {
        GongHouse x = Check.house("dk0;dk1;dk2;g;g");
        CHECK.due("all kinds", x.likes(0), 15);
        CHECK.due("no such", x.likes(2), -1);
        CHECK.due("no such", x.likes(-1), -1);
        CHECK.due("by one of four or none", x.probe(0, 9, 6), 0);
        CHECK.due("seen", x.seen(0, 1, 9, 6, false), 1);
        CHECK.due("not kind 1", x.likes(0), 13);
        CHECK.due("of the other nothing", x.likes(1), 15);
        CHECK.due("one of three", x.probe(0, 9, 6), 0);
        CHECK.due("seen", x.seen(0, 0, 9, 6, false), 2);
        CHECK.due("2 or 3", x.likes(0), 12);
        CHECK.due("dish 2 tells", x.probe(0, 9, 6), 2);
        CHECK.due("none tells: the lowest", x.probe(0, 9, 7), 0);
        CHECK.due("seen", x.seen(0, 2, 9, 6, true), 3);
        CHECK.due("2", x.likes(0), 4);
        CHECK.due("seen", x.seen(0, 2, 9, 7, true), 4);
        CHECK.due("nothing", x.likes(0), 0);
        CHECK.due("nothing fits", x.probe(0, 9, 6), -1);
        CHECK.due("no such guest", x.seen(2, 0, 0, 0, true), -1);
        CHECK.due("no such dish", x.seen(0, 3, 0, 0, true), -1);
        CHECK.due("w", x.seen(0, 0, 21, 0, true), -1);
        CHECK.due("w", x.seen(0, 0, -1, 0, true), -1);
        CHECK.due("v", x.seen(0, 0, 0, 21, true), -1);
        CHECK.due("v", x.seen(0, 0, 0, -10, true), -1);
        CHECK.due("w", x.probe(1, 21, 0), -1);
        CHECK.due("w", x.probe(1, -1, 0), -1);
        CHECK.due("v", x.probe(1, 0, 21), -1);
        CHECK.due("v", x.probe(1, 0, -10), -1);
        CHECK.due("no such guest", x.probe(2, 0, 0), -1);
        CHECK.due("all bounds are within", x.probe(1, 20, 20), 0);
        CHECK.due("all bounds are within", x.probe(1, 0, -9), 0);
        GongHouse y = Check.house("d;g");
        CHECK.due("all bounds are within", y.seen(0, 0, 20, 20, false), 1);
        CHECK.due("all bounds are within", y.seen(0, 0, 0, -9, true), 2);
        CHECK.due("all kinds still", y.likes(0), 15);
        for (int i = 5; i <= 10; i++) {
            CHECK.due("seen", x.seen(1, 0, 20, -9, true), i);
        }
        CHECK.due("there are ten", x.seen(1, 0, 20, -9, true), -1);
        CHECK.due("ten", x.count(10), 10);
        CHECK.due("no act", x.count(12), 0);
    }

    private static void sightsByLaws() {
        GongHouse x = Check.house("dk3;ga5p4;gp5");
        x.seen(0, 0, 10, 15, true);
        x.seen(1, 0, 10, 15, true);
        CHECK.due("without a law nothing", x.likes(0), 0);
        Check.rule(x, "y:f=1&n=0&d=0&p=4?w+l*5");
        CHECK.due("by the law", x.likes(0), 8);
        CHECK.due("another pays another", x.likes(1), 0);
        Check.rule(x, "y:90");
        x.seen(0, 0, 10, 20, true);
        CHECK.due("20 at most", x.likes(0), 15);
    }

    private static void leaves() {
        GongHouse x = Check.house("d;gs20;ga3s20;gs4");
        CHECK.due("never", x.leaves(0), -1);
        Check.rule(x, "y:[0-3]");
        CHECK.due("in 4", x.leaves(0), 4);
        CHECK.due("in 7", x.leaves(1), 7);
        CHECK.due("in 4, too", x.leaves(2), 4);
        CHECK.due("no such", x.leaves(3), -1);
        CHECK.due("no such", x.leaves(-1), -1);
        Check.days(x, 3);
        CHECK.due("on this one", x.leaves(0), 1);
        x.day();
        CHECK.due("he left", x.leaves(0), -1);
        GongHouse y = Check.house("d;gs20");
        for (int i = 0; i < 8; i++) {
            y.stay(0, 9);
        }
        Check.rule(y, "y:d=59?0-9;y:d=60?0-9");
        CHECK.due("not within 60", y.leaves(0), -1);
        y.day();
        CHECK.due("on the 60th", y.leaves(0), 60);
    }

    private static void games() {
        GongHouse x = Check.house("dw12;gs3p1;gs5p2;g");
        // Of 3 days: -2 + 6 + 6, two fed, 3 paid; of 5 days: -2 + 4 * 6, four fed, 10 paid.
        CHECK.due("first", x.game(0, 1, 0, 0, 0), 10 + 4 - 3);
        CHECK.due("second", x.game(0, 1, 0, 0, 1), 22 + 8 - 10);
        CHECK.due("turned round", x.game(1, 0, 0, 0, 0), 22 + 8 - 10);
        CHECK.due("longer", x.game(0, 1, 2, 0, 0), 22 + 8 - 5);
        CHECK.due("longest", x.game(0, 1, 0, 3, 1), 40 + 14 - 16);
        x.day();
        CHECK.due("how much more joy", x.game(0, 1, 0, 0, 0), 12 + 4 - 2);
        CHECK.due("nobody stays longer", Check.guest(x, 0, 1), 3);
        CHECK.due("bounds", x.game(0, 1, 3, 3, 0), 12 + 4 - 2 + 3 * 7);
        GongHouse y = Check.house("d;gs20p1;gs20p0");
        Check.rule(y, "y:1");
        CHECK.due("eight days", y.game(0, 1, 0, 0, 0), 8 + 14 - 8);
        CHECK.due("eight days", y.game(0, 1, 0, 0, 1), 8 + 14);
        CHECK.due("alike", x.game(0, 0, 0, 0, 0), HIDDEN);
        CHECK.due("no such", x.game(0, 3, 0, 0, 0), HIDDEN);
        CHECK.due("no such", x.game(-1, 1, 0, 0, 0), HIDDEN);
        CHECK.due("x", x.game(0, 1, 4, 0, 0), HIDDEN);
        CHECK.due("x", x.game(0, 1, -1, 0, 0), HIDDEN);
        CHECK.due("y", x.game(0, 1, 0, 4, 0), HIDDEN);
        CHECK.due("y", x.game(0, 1, 0, -1, 0), HIDDEN);
        CHECK.due("what", x.game(0, 1, 0, 0, 2), HIDDEN);
        CHECK.due("what", x.game(0, 1, 0, 0, -1), HIDDEN);
        Check.rule(x, "y:p=1?[0-9]");
        Check.days(x, 1);
        CHECK.due("left", x.count(8), 1);
        CHECK.due("one left", x.game(0, 1, 0, 0, 0), HIDDEN);
        CHECK.due("the other left", x.game(1, 0, 0, 0, 0), HIDDEN);
        CHECK.due("left: no rests", x.rests(1, 0, -1), -1);
    }

    private static void rests() {
        // To stay longer is worth 6 and 2 a day and costs 3: both stay three days longer.
        GongHouse x = Check.house("d;gs2;gs2");
        CHECK.due("one rest", x.rests(0, 1, -1), 1);
        CHECK.due("the rest", x.rests(0, 1, 0), 33);
        CHECK.due("no such", x.rests(0, 1, 1), -1);
        CHECK.due("no such", x.rests(0, 1, -2), -1);
        CHECK.due("no such", x.rests(0, 1, 16), -1);
        CHECK.due("alike", x.rests(1, 1, -1), -1);
        CHECK.due("no such guest", x.rests(0, 2, -1), -1);
        // One who comes behind the game has nothing by any choice.
        GongHouse y = Check.house("d;gs2;ga20");
        CHECK.due("four rests", y.rests(0, 1, -1), 4);
        for (int i = 0; i < 4; i++) {
            CHECK.due("rest " + i, y.rests(0, 1, i), 30 + i);
            CHECK.due("turned round " + i, y.rests(1, 0, i), 10 * i + 3);
        }
        // Who pays 9 a day and gets 8 by it goes at once.
        GongHouse z = Check.house("d;gs2p9;gs2p9");
        CHECK.due("rest", z.rests(0, 1, 0), 0);
        CHECK.due("one rest", z.rests(0, 1, -1), 1);
    }

    private static void odds() {
        GongHouse x = Check.house("sl1;d;g");
        CHECK.due("1 of 3 and 7", x.odds(0, 1, 30), 700000000);
        CHECK.due("both are not ill", x.odds(0, 2, 30), 490000000 + 420000000);
        CHECK.due("hand 3 stays 3", x.odds(0, 4, 100), 1000000000);
        CHECK.due("hand 3 on day 2", x.odds(0, 2, 100), 0);
        CHECK.due("never", x.odds(0, 4, 0), 1000000000);
        CHECK.due("small parts", x.odds(0, 1, 1), 990000000);
        CHECK.due("n", x.odds(0, 5, 1), -1);
        CHECK.due("n", x.odds(0, -1, 1), -1);
        CHECK.due("chance", x.odds(0, 0, 101), -1);
        CHECK.due("chance", x.odds(0, 0, -1), -1);
        CHECK.due("no such guest", x.odds(1, 0, 0), -1);
        x.day();
        CHECK.due("on this one", x.odds(0, 0, 100), 1000000000);
        CHECK.due("hand as it is", x.rule(0), 1);
        GongHouse full = Check.house("sl3;d;g");
        Check.days(full, 1);
        CHECK.due("no more than 3", full.odds(0, 2, 50), 1000000000);
        CHECK.due("nothing yet", full.odds(0, 1, 50), 0);
        CHECK.due("not there", Check.house("d;ga9").odds(0, 4, 10), 0);
    }

    private static void firsts() {
        GongHouse x = Check.house("dw5c4;dw9c3k1;dw9c3;gs3p2l1;gs5p7;gs5p7");
        CHECK.due("happiest of alike", x.all(0), 0);
        CHECK.due("longest", x.all(1), 1);
        CHECK.due("richest", x.all(2), 1);
        CHECK.due("hottest", x.all(3), 1);
        CHECK.due("cheapest", x.all(4), 1);
        CHECK.due("liked", x.all(5), 0);
        x.sign(1, 1);
        CHECK.due("liked", x.all(5), 1);
        x.stay(2, 1);
        CHECK.due("longest now", x.all(1), 2);
        Check.days(x, 1);
        Check.rule(x, "y:p=7?3");
        Check.days(x, 1);
        CHECK.due("happiest", x.all(0), 1);
        Check.days(x, 9);
        CHECK.due("liked by nobody", x.all(5), 0);
        GongHouse third = Check.house("d;gp1;gp2;gp3");
        Check.rule(third, "y:p");
        third.day();
        CHECK.due("the third is happiest", third.all(0), 2);
        third.stay(2, 1);
        CHECK.due("and longest", third.all(1), 2);
        CHECK.due("and richest", third.all(2), 2);
        CHECK.due("the last is hottest", Check.house("dw3;dw4;dw5;g").all(3), 2);
        CHECK.due("and cheapest", Check.house("dc3;dc2;dc1;g").all(4), 2);
        CHECK.due("the first is cheapest", Check.house("dc1;dc2;dc1;g").all(4), 0);
        GongHouse gone = Check.house("dk2;dk1;gs1l2;gl1");
        CHECK.due("of several the lowest", gone.all(5), 0);
        gone.day();
        CHECK.due("of those who are there", gone.all(5), 1);
    }

    private static void ofTheDay() {
        GongHouse x = Check.house("d;d;gs2p1;ga3s4p9;gs9p2");
        CHECK.due("last", x.all(7), 8);
        CHECK.due("takes", x.all(8), 3);
        CHECK.due("cooks", x.all(9), 0);
        CHECK.due("nothing", x.all(10), 5);
        CHECK.due("waste", x.all(6), 0);
        Check.days(x, 2);
        CHECK.due("takes", x.all(8), 2);
        CHECK.due("waste", x.all(6), 1);
        CHECK.due("nothing for nobody", x.all(10), 0);
        x.day();
        CHECK.due("cooks", x.all(9), 1);
        CHECK.due("takes", x.all(8), 11);
        CHECK.due("nothing", x.all(10), 2);
        x.stay(1, 9);
        CHECK.due("last", x.all(7), 15);
        Check.rule(x, "y:p=9?[0-9];y:0");
        Check.days(x, 2);
        CHECK.due("last of those who did not leave", x.all(7), 8);
        CHECK.due("no such what", x.all(13), -1);
        CHECK.due("no such what", x.all(-1), -1);
        CHECK.due("no house", new GongHouse().all(6), -1);
        GongHouse empty = Check.house("d;g");
        Check.rule(empty, "y:[0-9]");
        Check.days(empty, 2);
        CHECK.due("none", empty.all(7), -1);
        CHECK.due("takes nothing", empty.all(8), 0);
    }

    private static void mustardAndFull() {
        CHECK.due("at once", Check.house("d;g").all(11), 0);
        CHECK.due("never", Check.house("sl0;d;gs20").all(11), -1);
        GongHouse x = Check.house("d;gs1;ga4;ga4s3");
        CHECK.due("on the first", x.all(11), 0);
        x.day();
        CHECK.due("in three days", x.all(11), 3);
        CHECK.due("full in three days", x.all(12), 3);
        Check.days(x, 4);
        CHECK.due("no more", x.all(11), -1);
        CHECK.due("full now", x.all(12), 0);
        Check.rule(x, "y:[0-9]");
        GongHouse y = Check.house("d;gs6;gs6;ga3;ga2");
        CHECK.due("full on day 3", y.all(12), 3);
        Check.rule(y, "y:[0-9]");
        CHECK.due("but they leave", y.all(12), 0);
        GongHouse far = Check.house("d;ga20");
        CHECK.due("the 20th is not of the next", far.all(12), 0);
        far.day();
        CHECK.due("now it is", far.all(12), 19);
        CHECK.due("mustard in 19", far.all(11), 19);
    }

    private static void kindsAndStaying() {
        GongHouse x = Check.house("dk3;dk1;dk3;gs3;ga2s5");
        CHECK.due("kind 3", x.kinds(3), 5);
        CHECK.due("kind 1", x.kinds(1), 2);
        CHECK.due("kind 0", x.kinds(0), 0);
        CHECK.due("kind 4", x.kinds(4), -1);
        CHECK.due("kind -1", x.kinds(-1), -1);
        CHECK.due("no house", new GongHouse().kinds(0), -1);
        CHECK.due("three", x.staying(0), 3);
        CHECK.due("five", x.staying(1), 5);
        CHECK.due("no such", x.staying(2), -1);
        CHECK.due("no such", x.staying(-1), -1);
        Check.days(x, 2);
        CHECK.due("one", x.staying(0), 1);
        CHECK.due("five", x.staying(1), 5);
        x.day();
        CHECK.due("none", x.staying(0), 0);
        CHECK.due("four", x.staying(1), 4);
        x.stay(0, 5);
        CHECK.due("five again", x.staying(0), 5);
        Check.days(x, 9);
        CHECK.due("none", x.staying(1), 0);
        GongHouse left = Check.house("d;gs20");
        Check.rule(left, "y:[0-9]");
        Check.days(left, 2);
        CHECK.due("left", left.staying(0), 0);
    }
}
