/** Promises 11 to 19 and 22: days, what is done by hand, years, undoing, the log, weeks done. */
public final class ActsTest {
    private static final Check CHECK = new Check("ActsTest");

    public static void main(String[] args) {
        days();
        coins();
        joyAndLeaving();
        lastDay();
        choosing();
        illAndMadeUp();
        staying();
        signs();
        years();
        undoing();
        undoneByTheRing();
        log();
        performing();
        CHECK.finish();
    }

    private static void days() {
        GongHouse x = Check.house("sl2h4;dw20;dw5k1;ga1;g;ga2");
        CHECK.due("day 0: nothing", x.day(), 0);
        CHECK.due("day 1: nothing yet", x.day(), 0);
        CHECK.due("day 2: one portion, the first to come", x.day(), 1);
        CHECK.due("who was fed", x.log(0, 1), 2);
        CHECK.due("what", x.log(0, 0), 0);
        // guest 1 has -2 -2 +(12/3 + 3), guest 0 -2 -2, guest 2 -2
        CHECK.due("joy of 1", Check.guest(x, 1, 4), 3);
        CHECK.due("joy of 0", Check.guest(x, 0, 4), -4);
        CHECK.due("joy of 2", Check.guest(x, 2, 4), -2);
        CHECK.due("day 3: two portions", x.day(), 2);
        CHECK.due("the first two to come", x.log(0, 1), 3);
        CHECK.due("dish 1 is cold: 0, not liked", Check.guest(x, 1, 4), 3);
        CHECK.due("day 4: three", x.day(), 3);
        GongHouse y = Check.house("d;gs20");
        Check.manyDays(y, 998);
        CHECK.due("998", y.count(6), 998);
        CHECK.due("a day", y.day(), 0);
        CHECK.due("999", y.count(6), 999);
        CHECK.due("none goes by", y.day(), -1);
        CHECK.due("999 still", y.count(6), 999);
        CHECK.due("nor years", y.years(1, 1), -1);
        CHECK.due("but apart they go on", y.there(20), 0);
        CHECK.due("and are served", y.serves(20, 0), 0);
        CHECK.due("no house", new GongHouse().day(), -1);
    }

    private static void coins() {
        GongHouse x = Check.house("sc5;dc9;gp0;gp9");
        x.day();
        CHECK.due("not below 0, then paid", x.rule(2), 9);
        GongHouse y = Check.house("sc99;dc0;gp9s20;gp9s20;gp9s20;gp9s20;gp9s20;gp9s20");
        Check.days(y, 16);
        CHECK.due("99 and 16 times 54", y.rule(2), 963);
        y.day();
        CHECK.due("999 at most", y.rule(2), 999);
        y.day();
        CHECK.due("999 still", y.rule(2), 999);
    }

    private static void joyAndLeaving() {
        GongHouse x = Check.house("d;gs20p1;g");
        Check.rule(x, "y:p=1?0-9;y:2");
        x.day();
        CHECK.due("-9 stays", Check.guest(x, 0, 5), 0);
        int coins = x.rule(2);
        x.day();
        CHECK.due("-18 leaves", Check.guest(x, 0, 5), 1);
        CHECK.due("having paid 1 beside 3, for 2 dishes of 2", x.rule(2), coins - 4 + 4);
        CHECK.due("bits", x.count(8), 1);
        x.day();
        CHECK.due("is not there", Check.guest(x, 0, 4), -18);
        CHECK.due("not there", x.there(0), 2);
        GongHouse y = Check.house("d;gs20");
        Check.rule(y, "y:d=0?[0-5];y:d=1?[0-4];y:d=2?[0-1]");
        Check.days(y, 2);
        CHECK.due("-9", y.count(8), 0);
        y.day();
        CHECK.due("-10", y.count(8), 1);
        GongHouse z = Check.house("d;gs20");
        Check.rule(z, "y:20");
        for (int i = 0; i < 8; i++) {
            z.stay(0, 9);
        }
        Check.days(z, 49);
        CHECK.due("980", Check.guest(z, 0, 4), 980);
        z.day();
        CHECK.due("999 at most", Check.guest(z, 0, 4), 999);
    }

    private static void lastDay() {
        // Five were there on day 0; on day 1 three are, for two of whom it is the last.
        GongHouse x = Check.house("d;gs1;gs2;gs3;gs1;gs2");
        x.day();
        CHECK.due("five portions of two days", x.serves(0, 2), 5);
        CHECK.due("two for one", x.fed(1), 2);
        CHECK.due("one", x.fed(2), 1);
        CHECK.due("two for another", x.fed(4), 2);
        CHECK.due("nothing is thrown away", x.all(6), 0);
        x.day();
        CHECK.due("two for the last", x.fed(2), 2);
        CHECK.due("one is thrown away", x.all(6), 1);
        CHECK.due("one is fed", x.day(), 1);
        GongHouse y = Check.house("d;gs1;gs2;gs2");
        y.day();
        CHECK.due("the lowest has two", y.fed(1), 2);
        CHECK.due("the other one", y.fed(2), 1);
    }

    private static void choosing() {
        GongHouse x = Check.house("sl0;d;d;d;gs20");
        CHECK.due("chosen", x.choose(2), -1);
        CHECK.due("it is so", x.choose(2), -2);
        CHECK.due("no such", x.choose(3), -2);
        CHECK.due("no such", x.choose(-1), -2);
        CHECK.due("another", x.choose(0), 2);
        CHECK.due("the one it would be", x.all(9), 0);
        CHECK.due("again", x.choose(1), 0);
        x.day();
        CHECK.due("cooked and served", x.log(0, 0), 1);
        CHECK.due("for that day alone", x.all(9), 1);
        x.day();
        CHECK.due("by the day", x.all(9), 2);
        x.day();
        CHECK.due("by the day", x.all(9), 0);
        CHECK.due("three acts and three days", x.count(12), 6);
    }

    private static void illAndMadeUp() {
        GongHouse x = Check.house("sl1c14;d;g");
        CHECK.due("ill", x.ill(), 2);
        CHECK.due("ill", x.ill(), 3);
        CHECK.due("three", x.ill(), -1);
        CHECK.due("up", x.makeUp(), 2);
        CHECK.due("coins", x.rule(2), 9);
        CHECK.due("up", x.makeUp(), 1);
        CHECK.due("too few", x.makeUp(), -1);
        CHECK.due("coins", x.rule(2), 4);
        CHECK.due("hand", x.rule(0), 1);
        GongHouse y = Check.house("sl1c5;d;g");
        CHECK.due("five are enough", y.makeUp(), 0);
        CHECK.due("none is left", y.rule(2), 0);
        GongHouse z = Check.house("sl0c50;d;g");
        CHECK.due("no hand", z.makeUp(), -1);
        CHECK.due("no act", z.count(12), 0);
        CHECK.due("no house", new GongHouse().ill(), -1);
        CHECK.due("no house", new GongHouse().makeUp(), -1);
    }

    private static void staying() {
        GongHouse x = Check.house("d;gs20;gs2");
        CHECK.due("out of bounds", x.stay(0, 0), -1);
        CHECK.due("out of bounds", x.stay(0, 10), -1);
        CHECK.due("out of bounds", x.stay(0, Integer.MAX_VALUE), -1);
        CHECK.due("no such", x.stay(2, 1), -1);
        CHECK.due("no such", x.stay(-1, 1), -1);
        for (int i = 1; i <= 8; i++) {
            CHECK.due("longer", x.stay(0, 9), 20 + 9 * i);
        }
        CHECK.due("above 99", x.stay(0, 8), -1);
        CHECK.due("99", x.stay(0, 7), 99);
        CHECK.due("above 99", x.stay(0, 1), -1);
        Check.days(x, 3);
        CHECK.due("gone by now", x.there(0), 1);
        CHECK.due("stays longer though", x.stay(1, 2), 4);
        CHECK.due("there again", x.there(0), 3);
        Check.rule(x, "y:[0-9]");
        Check.days(x, 3);
        CHECK.due("one left", x.count(8) & 1, 1);
        CHECK.due("he left", x.stay(0, 1), -1);
    }

    private static void signs() {
        GongHouse x = Check.house("sl0;dw9k2;gl1s20");
        CHECK.due("as it is", x.sign(0, 1), -1);
        CHECK.due("no such kind", x.sign(0, 4), -1);
        CHECK.due("no such kind", x.sign(0, -1), -1);
        CHECK.due("no such guest", x.sign(1, 0), -1);
        x.day();
        CHECK.due("not liked", Check.guest(x, 0, 4), 3);
        CHECK.due("sign", x.sign(0, 2), 1);
        CHECK.due("kind", Check.guest(x, 0, 2), 2);
        x.day();
        CHECK.due("liked", Check.guest(x, 0, 4), 9);
        CHECK.due("back", x.sign(0, 1), 2);
        CHECK.due("kind 0", x.sign(0, 0), 1);
        GongHouse y = Check.house("d;gl1;gl2;gl3");
        CHECK.due("what was of 1", y.sign(1, 1), 2);
        CHECK.due("what was of 2", y.sign(2, 0), 3);
        CHECK.due("as it is for 1", y.sign(1, 1), -1);
        CHECK.due("not for 0", y.sign(0, 3), 1);
        Check.rule(y, "y:[0-9]");
        Check.days(y, 2);
        CHECK.due("who left makes signs, too", y.sign(0, 2), 3);
    }

    private static void years() {
        GongHouse bounds = Check.house("d;g");
        CHECK.due("no house", new GongHouse().years(1, 1), -1);
        CHECK.due("n", bounds.years(0, 1), -1);
        CHECK.due("n", bounds.years(31, 1), -1);
        CHECK.due("n", bounds.years(-5, 1), -1);
        CHECK.due("one", bounds.years(1, 1), 1);
        for (int i = 0; i < 20; i++) {
            yearsByHand(i % 10, 77 * i * i * i - 99);
        }
        manyYears();
    }

    private static void yearsByHand(int fever, long from) {
        GongHouse x = Check.house("sl0;d;d;d;gs20;gs20a2");
        x.fever(fever);
        CHECK.due("years", x.years(30, from), 30);
        CHECK.due("acts", x.count(12), 30);
        CHECK.due("log", x.count(11), 30);
        // The same by hand.
        GongHouse y = Check.house("sl0;d;d;d;gs20;gs20a2");
        long seed = from;
        for (int i = 0; i < 30; i++) {
            seed = next(seed);
            if (draw(seed, 10) < fever) {
                y.ill();
            }
            seed = next(seed);
            y.choose(draw(seed, 3));
            seed = next(seed);
            if (draw(seed, 10) >= 8) {
                seed = next(seed);
                y.stay(draw(seed, 2), 2);
            }
            y.day();
        }
        for (int what = 0; what < 3; what++) {
            CHECK.due("rule " + what, x.rule(what), y.rule(what));
            for (int i = 0; i < 30; i++) {
                CHECK.due("log " + i, x.log(i, what), y.log(i, what));
            }
        }
        for (int what = 0; what < 6; what++) {
            CHECK.due("guest 0 " + what, Check.guest(x, 0, what), Check.guest(y, 0, what));
            CHECK.due("guest 1 " + what, Check.guest(x, 1, what), Check.guest(y, 1, what));
        }
        CHECK.due("a day and what is ahead of it are one act", x.undo(), 29);
        CHECK.due("day", x.count(6), 29);
        for (int i = 29; i > 0; i--) {
            x.undo();
        }
        CHECK.due("hand as told", x.rule(0), 0);
        CHECK.due("stay as told", Check.guest(x, 0, 1), 20);
        CHECK.due("nothing chosen", x.choose(0), -1);
    }

    private static void manyYears() {
        GongHouse z = Check.house("d;g");
        z.fever(0);
        for (int i = 0; i < 33; i++) {
            z.years(30, -1 - i);
        }
        CHECK.due("990", z.count(6), 990);
        CHECK.due("never ill", z.rule(0), 1);
        CHECK.due("beyond 999", z.years(10, 1), -1);
        CHECK.due("990 still", z.count(6), 990);
        CHECK.due("up to 999", z.years(9, 1), 999);
        CHECK.due("forty acts", z.count(12), 40);
    }

    private static long next(long x) {
        return x * 6364136223846793005L + 1442695040888963407L;
    }

    private static int draw(long x, int j) {
        return (int) ((x >>> 33) % j);
    }

    private static void undoing() {
        GongHouse x = Check.house("sl1c30;d;dk1;g;g");
        CHECK.due("none", x.undo(), -1);
        x.choose(1);
        x.ill();
        x.makeUp();
        x.stay(0, 3);
        x.sign(1, 2);
        x.day();
        CHECK.due("a day", x.undo(), 5);
        CHECK.due("day", x.count(6), 0);
        CHECK.due("chosen again", x.all(9), 1);
        CHECK.due("no joy", x.count(7), 0);
        CHECK.due("no log", x.count(11), 0);
        CHECK.due("a sign", x.undo(), 4);
        CHECK.due("kind", Check.guest(x, 1, 2), 0);
        CHECK.due("a stay", x.undo(), 3);
        CHECK.due("days", Check.guest(x, 0, 1), 7);
        CHECK.due("made up", x.undo(), 2);
        CHECK.due("hand", x.rule(0), 2);
        CHECK.due("coins", x.rule(2), 30);
        CHECK.due("ill", x.undo(), 1);
        CHECK.due("hand", x.rule(0), 1);
        CHECK.due("chosen", x.undo(), 0);
        CHECK.due("none was", x.choose(1), -1);
        x.undo();
        CHECK.due("none", x.undo(), -1);
        Check.rule(x, "y:[0-9]");
        Check.days(x, 2);
        CHECK.due("left", x.count(8), 3);
        x.undo();
        CHECK.due("did not leave", x.count(8), 0);
        CHECK.due("the law holds", x.count(5), 0);
    }

    private static void undoneByTheRing() {
        GongHouse x = Check.house("d;d;d;gs20");
        Check.days(x, 120);
        CHECK.due("forty", x.count(12), 40);
        CHECK.due("sixty", x.count(11), 60);
        for (int i = 39; i >= 0; i--) {
            CHECK.due("undo", x.undo(), i);
        }
        CHECK.due("none", x.undo(), -1);
        CHECK.due("day", x.count(6), 80);
        CHECK.due("sixty still", x.count(11), 60);
        for (int i = 0; i < 60; i++) {
            CHECK.due("log " + i, x.log(i, 0), (79 - i - 1) % 3);
        }
        CHECK.due("no more", x.log(60, 0), -1000000);
        CHECK.due("what was cooked is there, too", x.serves(0, 0), 79 % 3);
    }

    private static void log() {
        GongHouse x = Check.house("d;d;g;gs1");
        CHECK.due("empty", x.log(0, 0), -1000000);
        Check.days(x, 3);
        int[][] want = {{1, 1, 6 - 2 - 2 + 6}, {0, 1, 6 - 2 - 2}, {-1, 0, -4}};
        for (int i = 0; i < 3; i++) {
            for (int what = 0; what < 3; what++) {
                CHECK.due("log " + i + " " + what, x.log(i, what), want[i][what]);
            }
        }
        CHECK.due("no such", x.log(3, 0), -1000000);
        CHECK.due("no such", x.log(-1, 0), -1000000);
        CHECK.due("no such", x.log(0, 3), -1000000);
        CHECK.due("no such", x.log(0, -1), -1000000);
        Check.days(x, 58);
        CHECK.due("sixty", x.count(11), 60);
        CHECK.due("the oldest is gone", x.log(59, 0), 0);
    }

    private static void performing() {
        GongHouse x = Check.house("sl1c12;d;d;g;g");
        int week = Check.week(x, "c1;x12;u;d;i;d");
        CHECK.due("all", x.perform(week), 6);
        CHECK.due("acts", x.count(12), 6);
        CHECK.due("log", x.count(11), 2);
        CHECK.due("served at once", x.log(1, 0), 1);
        CHECK.due("stays", Check.guest(x, 1, 1), 9);
        x.undo();
        x.undo();
        CHECK.due("steps are undone one by one", x.count(6), 1);
        CHECK.due("hand", x.rule(0), 0);
        int other = Check.week(x, "i;c5;d");
        CHECK.due("up to the one that can't be", x.perform(other), 1);
        CHECK.due("ill", x.rule(0), 1);
        CHECK.due("no day", x.count(6), 1);
        CHECK.due("no such week", x.perform(2), -1);
        CHECK.due("no such week", x.perform(-1), -1);
        GongHouse none = new GongHouse();
        Check.week(none, "d");
        CHECK.due("no house", none.perform(0), -1);
        String[] cannot = {"c2", "c0;c0", "x20", "x00", "x51", "u;u;u"};
        int[] done = {0, 1, 0, 0, 0, 1};
        for (int i = 0; i < cannot.length; i++) {
            GongHouse y = Check.house("sl1c20;d;d;g;g");
            Check.week(y, cannot[i]);
            CHECK.due("steps of " + cannot[i], y.perform(0), done[i]);
        }
    }
}
