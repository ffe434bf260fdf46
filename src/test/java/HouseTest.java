/** Promises 6 to 10 and 40, and by what laws joy comes: what the house tells of itself. */
public final class HouseTest {
    private static final Check CHECK = new Check("HouseTest");

    public static void main(String[] args) {
        told();
        usual();
        lawsAndFever();
        worths();
        lettersOfLaws();
        counts();
        CHECK.finish();
    }

    private static void told() {
        GongHouse x = Check.house("ga3s9l2p8;dw20c9k3;sl3h9c99;dw1c0k1;g");
        int[] rules = {3, 9, 99};
        int[][] dishes = {{20, 9, 3}, {1, 0, 1}};
        int[][] guests = {{3, 9, 2, 8, 0, 0}, {0, 7, 0, 3, 0, 0}};
        for (int what = 0; what < 3; what++) {
            CHECK.due("rule " + what, x.rule(what), rules[what]);
            CHECK.due("dish 0 " + what, x.dish(0, what), dishes[0][what]);
            CHECK.due("dish 1 " + what, x.dish(1, what), dishes[1][what]);
        }
        for (int what = 0; what < 6; what++) {
            CHECK.due("guest 0 " + what, Check.guest(x, 0, what), guests[0][what]);
            CHECK.due("guest 1 " + what, Check.guest(x, 1, what), guests[1][what]);
        }
        x.sign(1, 3);
        CHECK.due("guest 1 likes", Check.guest(x, 1, 2), 3);
        CHECK.due("guest 0 likes", Check.guest(x, 0, 2), 2);
        CHECK.due("rule 3", x.rule(3), -1);
        CHECK.due("rule -1", x.rule(-1), -1);
        CHECK.due("dish 2", x.dish(2, 0), -1);
        CHECK.due("dish -1", x.dish(-1, 0), -1);
        CHECK.due("dish 0 3", x.dish(0, 3), -1);
        CHECK.due("dish 0 -1", x.dish(0, -1), -1);
        CHECK.due("guest 2", Check.guest(x, 2, 0), -1000);
        CHECK.due("guest -1", Check.guest(x, -1, 0), -1000);
        CHECK.due("guest 0 6", Check.guest(x, 0, 6), -1000);
        CHECK.due("guest 0 -1", Check.guest(x, 0, -1), -1000);
        CHECK.due("guest far", Check.guest(x, Integer.MAX_VALUE, 0), -1000);
        CHECK.due("dish far", x.dish(Integer.MIN_VALUE, 0), -1);
    }

    private static void usual() {
        GongHouse x = Check.house("d;g");
        CHECK.due("hand", x.rule(0), 1);
        CHECK.due("colder", x.rule(1), 3);
        CHECK.due("coins", x.rule(2), 20);
        CHECK.due("warmth", x.dish(0, 0), 12);
        CHECK.due("cost", x.dish(0, 1), 2);
        CHECK.due("kind", x.dish(0, 2), 0);
    }

    private static void lawsAndFever() {
        GongHouse x = Check.house("d;g");
        CHECK.due("no law 0", x.law(0), false);
        CHECK.due("no law is fine", x.law(-1), true);
        CHECK.due("no law -2", x.law(-2), false);
        Check.rule(x, "y:7");
        CHECK.due("holds", x.count(5), 0);
        CHECK.due("again", x.law(0), true);
        CHECK.due("no law 1", x.law(1), false);
        CHECK.due("still holds", x.count(5), 0);
        x.day();
        CHECK.due("by the law", Check.guest(x, 0, 4), 7);
        x.law(-1);
        CHECK.due("none holds", x.count(5), -1);
        x.day();
        CHECK.due("by none", Check.guest(x, 0, 4), 13);
        CHECK.due("fever as it is", x.fever(1), false);
        CHECK.due("fever 10", x.fever(10), false);
        CHECK.due("fever -1", x.fever(-1), false);
        CHECK.due("fever", x.count(9), 1);
        CHECK.due("fever 9", x.fever(9), true);
        CHECK.due("fever", x.count(9), 9);
        CHECK.due("fever 0", x.fever(0), true);
    }

    private static void worth(String law, int want) {
        GongHouse x = Check.house("sl0;dw15;gp4");
        Check.rule(x, law);
        x.day();
        CHECK.due("worth of " + law, Check.guest(x, 0, 4), want);
    }

    private static void worths() {
        worth("y:3", 3);
        worth("y:99", 20);
        worth("y:0-99", -9);
        worth("y:20-3-4", 13);
        worth("y:2+3*4", 14);
        worth("y:[2+1]*4", 12);
        worth("y:17/4*4", 16);
        worth("y:[0-7]/2", -3);
        worth("y:7/0", 0);
        worth("y:7/[3-3]+1", 1);
        worth("y:9999*9999/[999*1000]", 1);
        worth("y:9999*9999-9999*101+9", 9);
        worth("y:[0-9999]*9999+9999*100+108", 8);
        worth("y:[9999*9999-999*1000]/100", 10);
        worth("y:[[0-9999]*9999+999*1000]/200", -5);
        worth("y:1=2?5", 0);
        worth("y:1=2?5;y:6", 6);
        worth("y:1=1?5;y:6", 5);
        worth("y:7;y:6", 7);
        worth("y:1<2?5", 5);
        worth("y:2<2?5", 0);
        worth("y:2>2?5", 0);
        worth("y:3>2?5", 5);
        worth("y:!3>2?5;y:4", 4);
        worth("y:!!3>2?5;y:4", 5);
        worth("y:!1=2&1=2?5;y:4", 4);
        worth("y:!(1=2&1=2)?5;y:4", 5);
        worth("y:1=1|1=1&1=2?5;y:4", 5);
        worth("y:(1=1|1=1)&1=2?5;y:4", 4);
        worth("y:1=2|1=2|1=1?5;y:4", 5);
        worth("y:1=2?1;y:1=3?2;y:w=15&p=4?3;y:4", 3);
        worth("y:1+1=2*1?[[[[[[8]]]]]]", 8);
        worth(" y : 1 + 1 = 2 ? 11 ", 11);
    }

    private static void lettersOfLaws() {
        // Guest 0 likes kind 1, comes on day 1 and pays 4; portions of dish 1 (kind 1) come to him on day 2.
        String house = "sl1h3;dw15;dw11k1;ga1s3l1p4";
        int[][] want = {
            {12, 0, 0, 0, 4, 1},
            {8, 1, 1, 1, 4, 2},
            {12, 0, 1, 2, 4, 3},
        };
        String letters = "wlfnpd";
        for (int k = 0; k < letters.length(); k++) {
            GongHouse x = Check.house(house);
            Check.rule(x, "y:" + letters.charAt(k));
            x.day();
            int joy = 0;
            for (int day = 0; day < 3; day++) {
                x.day();
                int more = Check.guest(x, 0, 4) - joy;
                joy += more;
                CHECK.due(letters.charAt(k) + " on day " + (day + 1), more, want[day][k]);
            }
        }
        GongHouse none = Check.house("d;g");
        Check.rule(none, "y:w*10+l");
        none.day();
        CHECK.due("nothing served: no warmth, no liking", Check.guest(none, 0, 4), 0);
        GongHouse two = Check.house("d;gs2;gs9");
        Check.rule(two, "y:f");
        two.day();
        two.day();
        CHECK.due("fed one", Check.guest(two, 0, 4), 1);
        GongHouse fewer = Check.house("sl2;d;gs3;gs2");
        Check.rule(fewer, "y:f*5");
        Check.days(fewer, 3);
        CHECK.due("fed two on the last day", Check.guest(fewer, 0, 4), 10);
    }

    private static void counts() {
        GongHouse x = Check.house("d;d;g;g;gs1");
        Check.week(x, "d");
        Check.rule(x, "y:p=3&n<9?[0-5]");
        x.seen(0, 0, 0, 0, true);
        x.fever(3);
        Check.days(x, 2);
        Check.tape(x, "abc");
        int[] counts = {3, 2, 1, 1, 3, 0, 2, -25, 3, 3, 1, 2, 2};
        for (int what = 0; what < counts.length; what++) {
            CHECK.due("count " + what, x.count(what), counts[what]);
        }
        CHECK.due("count 13", x.count(13), -1000000);
        CHECK.due("count -1", x.count(-1), -1000000);
    }
}
