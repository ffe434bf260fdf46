/** Promises 38 and 39: images, and the house as it was then. */
public final class ImageTest {
    private static final Check CHECK = new Check("ImageTest");

    public static void main(String[] args) {
        all();
        logs();
        again();
        CHECK.finish();
    }

    private static void all() {
        CHECK.due("no house", new GongHouse().image(), -1);
        GongHouse x = Check.house("sl1c40;d;dk1;gs20;gs20");
        CHECK.due("no image", x.back(), -1);
        Check.days(x, 2);
        x.ill();
        x.choose(1);
        x.sign(0, 2);
        x.stay(1, 4);
        int coins = x.rule(2);
        int joy = x.count(7);
        CHECK.due("image", x.image(), 2);
        CHECK.due("acts can still be undone", x.count(12), 6);
        x.seen(0, 0, 1, 1, true);
        x.fever(7);
        x.makeUp();
        x.sign(0, 3);
        x.stay(1, 1);
        Check.rule(x, "y:[0-9]");
        Check.days(x, 5);
        CHECK.due("both left", x.count(8), 3);
        CHECK.due("back", x.back(), 2);
        CHECK.due("hand", x.rule(0), 2);
        CHECK.due("coins", x.rule(2), coins);
        CHECK.due("joy", x.count(7), joy);
        CHECK.due("likes", Check.guest(x, 0, 2), 2);
        CHECK.due("stays", Check.guest(x, 1, 1), 24);
        CHECK.due("nobody left", x.count(8), 0);
        CHECK.due("day", x.count(6), 2);
        CHECK.due("log", x.count(11), 2);
        CHECK.due("chosen", x.choose(1), -2);
        CHECK.due("cooked", x.serves(0, 0), 0);
        CHECK.due("no act", x.count(12), 0);
        CHECK.due("none to undo", x.undo(), -1);
        CHECK.due("law stays", x.count(5), 0);
        CHECK.due("fever stays", x.count(9), 7);
        CHECK.due("seen stays", x.count(10), 1);
    }

    private static void logs() {
        GongHouse x = Check.house("d;d;d;gs20");
        Check.days(x, 70);
        x.image();
        for (int i = 0; i < 20; i++) {
            x.undo();
        }
        for (int i = 0; i < 140; i++) {
            x.choose(2);
            x.day();
        }
        CHECK.due("back", x.back(), 70);
        CHECK.due("sixty", x.count(11), 60);
        for (int i = 0; i < 60; i++) {
            CHECK.due("log " + i, x.log(i, 0), (69 - i - 1) % 3);
        }
        CHECK.due("served", x.serves(0, 0), 69 % 3);
    }

    private static void again() {
        GongHouse x = Check.house("d;g");
        CHECK.due("image", x.image(), 0);
        x.day();
        CHECK.due("back", x.back(), 0);
        x.day();
        CHECK.due("back again", x.back(), 0);
        Check.days(x, 3);
        CHECK.due("another image", x.image(), 3);
        x.day();
        CHECK.due("instead of the one ahead", x.back(), 3);
        x.day();
        CHECK.due("an act behind it", x.undo(), 0);
        CHECK.due("day", x.count(6), 3);
    }
}
