import java.util.ArrayList;
import java.util.List;
import java.util.NoSuchElementException;
import java.util.function.Consumer;
import java.util.function.ToLongFunction;

/**
 * "What is refused answers as told and changes nothing" (==== 4), for every promise that refuses something, and
 * "Apart, from as it is" (==== 3), for every promise that asks: each call is made on an object whose twin does
 * without it; then all that can be asked of the two must be the same.
 */
public final class RefusedTest {
    private static final int NONE = -1;
    private static final int HIDDEN = -1000000;
    private static final int THROWS = -1000;
    private static final int LOWEST = Integer.MIN_VALUE;
    private static final int HIGHEST = Integer.MAX_VALUE;
    private static final String SIXTEEN = "d;d;d;d;d;d;d;d;d;d;d;d;d;d;d;d";
    private static final Check CHECK = new Check("RefusedTest");

    /** An object as it is when the call comes, and what all looks at its twin tell. */
    private static final class Place {
        private final String name;
        private final Consumer<GongHouse> way;
        private final List<List<Integer>> twins = new ArrayList<>();

        private Place(String name, Consumer<GongHouse> way) {
            this.name = name;
            this.way = way;
            for (int look = 0; look < LOOKS; look++) {
                twins.add(look(look, make()));
            }
        }

        private GongHouse make() {
            GongHouse x = new GongHouse();
            way.accept(x);
            return x;
        }

        /** The call answers this, and all looks tell the same as without it. */
        private void due(String call, long want, ToLongFunction<GongHouse> calling) {
            for (int look = 0; look < LOOKS; look++) {
                GongHouse x = make();
                CHECK.due(call + " in " + name, calling.applyAsLong(x), want);
                tellsTheSame(call, look, x);
            }
        }

        /** By this other way all looks tell the same. */
        private void same(String other, Consumer<GongHouse> otherWay) {
            for (int look = 0; look < LOOKS; look++) {
                GongHouse x = new GongHouse();
                otherWay.accept(x);
                tellsTheSame(other, look, x);
            }
        }

        private void tellsTheSame(String call, int look, GongHouse x) {
            List<Integer> told = look(look, x);
            List<Integer> twin = twins.get(look);
            CHECK.due(call + " in " + name + ", how much look " + look + " tells", told.size(), twin.size());
            for (int i = 0; i < Math.min(told.size(), twin.size()); i++) {
                CHECK.due(call + " in " + name + ", look " + look + ", row " + i, told.get(i), twin.get(i));
            }
        }

        /** Whatever the call answers, it changes nothing. */
        private void apart(String call, ToLongFunction<GongHouse> calling) {
            due(call, calling.applyAsLong(make()), calling);
        }
    }

    private static final int LOOKS = 5;

    public static void main(String[] args) {
        Place empty = new Place("no HOUSE", RefusedTest::noHouse);
        Place midway = new Place("a HOUSE midway", RefusedTest::midway);
        Place full = new Place("a HOUSE with all there can be", RefusedTest::full);
        Place end = new Place("a HOUSE on DAY 999", RefusedTest::end);
        ofNoHouse(empty);
        texts(midway, full);
        told(midway);
        told(full);
        acts(midway);
        actsOfFull(full);
        oneMoreThanFull(full);
        actsAtTheEnd(end);
        asksRefused(midway);
        sights(midway, full);
        asksAnswered(midway);
        asksAnswered(full);
        asksAnswered(end);
        anotherHouse();
        CHECK.finish();
    }

    // ---- the objects ----

    private static void noHouse(GongHouse x) {
        Check.week(x, "d;x01");
        Check.tape(x, "y:p+1");
        x.text(1);
        Check.tape(x, "d;gs3");
    }

    /** DAY 5, HAND 2 or more, 1 COIN, one LEFT, one gone, one to come; an IMAGE of DAY 2; something CHOSEN. */
    private static void midway(GongHouse x) {
        Check.tape(x, "sl1h2c4;dw20c9;dw9c8k1;dw15c9k2;gs20p1;gs2p0l1;ga9s5p2;gs20p5l2");
        x.text(0);
        Check.tape(x, "y:p=5?0-4;y:w/3+l*2+f");
        x.text(1);
        Check.tape(x, "y:1");
        x.text(1);
        x.law(0);
        Check.week(x, "d;c1;d;i;u;x09");
        Check.week(x, "u;c9");
        x.fever(3);
        Check.days(x, 2);
        x.image();
        x.sign(0, 3);
        x.ill();
        x.stay(2, 4);
        x.day();
        x.years(2, 77);
        x.seen(0, 0, 9, 5, true);
        x.seen(2, 1, 20, 20, false);
        x.choose(1);
        Check.tape(x, "c1;d ");
    }

    /** Four LAWS and WEEKS, ten SEEN, a full TAPE, six GUESTS, five DISHES, 99 DAYS, forty ACTS, HAND 3. */
    private static void full(GongHouse x) {
        Check.tape(x, "sl3h1c99;dw20;dw19k1;dw18k2;dw17k3;d;gs20;gs20l1;gs20l2;gs20l3;g;gp9");
        x.text(0);
        textsOfFull(x);
        for (int i = 0; i < 8; i++) {
            x.stay(0, 9);
        }
        x.stay(0, 7);
        x.image();
        for (int i = 0; i < 5; i++) {
            x.perform(0);
        }
        for (int i = 0; i < 10; i++) {
            x.seen(i % 6, i % 5, 2 * i, i, i % 2 == 0);
        }
        Check.tape(x, "d;g" + " ".repeat(237));
    }

    private static void textsOfFull(GongHouse x) {
        for (int i = 0; i < 4; i++) {
            Check.tape(x, "y:f*" + i);
            x.text(1);
            Check.week(x, i == 0 ? SIXTEEN : "d;i");
        }
        x.law(3);
    }

    private static void end(GongHouse x) {
        Check.tape(x, "sl0c0;dc9;d;gs1p0;gs1p0");
        x.text(0);
        Check.week(x, SIXTEEN);
        Check.week(x, "d");
        for (int i = 0; i < 62; i++) {
            x.perform(0);
        }
        Check.days(x, 7);
        x.image();
    }

    // ---- the looks; each is well within the 512 calls of an object ----

    private static List<Integer> look(int which, GongHouse x) {
        List<Integer> told = new ArrayList<>();
        switch (which) {
            case 0:
                lookAtState(x, told);
                lookAhead(x, told);
                break;
            case 1:
                lookAtTexts(x, told);
                break;
            case 2:
                lookAtLog(x, told);
                break;
            case 3:
                lookBehind(x, told);
                break;
            default:
                told.add(x.back());
                lookAtState(x, told);
                told.add(x.undo());
                break;
        }
        return told;
    }

    private static void lookAtState(GongHouse x, List<Integer> told) {
        for (int what = 0; what < 13; what++) {
            told.add(x.count(what));
        }
        for (int what = 0; what < 3; what++) {
            told.add(x.rule(what));
            for (int dish = 0; dish < 5; dish++) {
                told.add(x.dish(dish, what));
            }
        }
        for (int guest = 0; guest < 6; guest++) {
            for (int what = 0; what < 6; what++) {
                told.add(Check.guest(x, guest, what));
            }
            told.add(x.likes(guest));
        }
        for (int what = 0; what < 13; what++) {
            told.add(x.all(what));
        }
        for (int n = 0; n < 4; n++) {
            for (int what = 0; what < 3; what++) {
                told.add(x.serves(n, what));
            }
        }
    }

    private static void lookAhead(GongHouse x, List<Integer> told) {
        for (int guest = 0; guest < 6; guest++) {
            told.add(x.fed(guest));
            told.add(x.leaves(guest));
            told.add(x.staying(guest));
            told.add(x.odds(guest, 3, 30));
            told.add(x.probe(guest, 9, 5));
            told.add(x.rests(guest, (guest + 1) % 6, 0));
        }
        for (int n = 0; n <= 20; n++) {
            told.add(x.there(n));
            told.add(x.madeUp(n));
        }
        for (int n = 1; n <= 3; n++) {
            told.add(x.best(n, 0));
            told.add(x.best(n, 1));
        }
    }

    /** The TAPE is looked at by its faults, and by what is behind its end. */
    private static void lookAtTexts(GongHouse x, List<Integer> told) {
        for (int week = 0; week < 4; week++) {
            told.add(x.run(week, 0));
            told.add(x.run(week, 1));
            for (int i = 0; i < 16; i++) {
                for (int what = 0; what < 3; what++) {
                    told.add(x.step(week, i, what));
                }
            }
        }
        for (int sort = 0; sort < 3; sort++) {
            told.add(x.fault(sort));
        }
        for (int law = -1; law < 4; law++) {
            told.add(x.law(law) ? 1 : 0);
            told.add(x.best(1, 1));
        }
        for (int length = x.count(4) - 1; length >= 0 && length > x.count(4) - 4; length--) {
            told.add(x.end(length) ? 1 : 0);
            told.add(x.fault(0));
            told.add(x.fault(2));
        }
        Check.tape(x, "d;g;g");
        told.add(x.text(0));
        told.add(x.years(30, 5));
        told.add(x.rule(0));
        told.add(x.count(7));
    }

    private static void lookAtLog(GongHouse x, List<Integer> told) {
        for (int i = 0; i <= 60; i++) {
            for (int what = 0; what < 3; what++) {
                told.add(x.log(i, what));
            }
        }
        told.add(x.day());
        lookAtState(x, told);
    }

    private static void lookBehind(GongHouse x, List<Integer> told) {
        for (int i = 0; i <= 40; i++) {
            told.add(x.undo());
            told.add(x.count(6));
            told.add(x.count(7));
            told.add(x.rule(0));
            told.add(x.rule(2));
            told.add(x.serves(0, 0));
        }
        lookAtState(x, told);
    }

    // ---- what is refused ----

    private static void ofNoHouse(Place p) {
        CHECK.of("P1, P6 to P39: No HOUSE: refused");
        p.due("rule", NONE, x -> x.rule(0));
        p.due("dish", NONE, x -> x.dish(0, 0));
        p.due("guest", THROWS, x -> Check.guest(x, 0, 0));
        p.due("day", NONE, GongHouse::day);
        p.due("choose", -2, x -> x.choose(0));
        p.due("ill", NONE, GongHouse::ill);
        p.due("makeUp", NONE, GongHouse::makeUp);
        p.due("stay", NONE, x -> x.stay(0, 1));
        p.due("sign", NONE, x -> x.sign(0, 1));
        p.due("years", NONE, x -> x.years(1, 1));
        p.due("undo", NONE, GongHouse::undo);
        p.due("log", HIDDEN, x -> x.log(0, 0));
        p.due("run", HIDDEN, x -> x.run(0, 0));
        p.due("perform", NONE, x -> x.perform(0));
        p.due("serves", NONE, x -> x.serves(0, 0));
        p.due("there", NONE, x -> x.there(0));
        p.due("fed", NONE, x -> x.fed(0));
        p.due("best", HIDDEN, x -> x.best(1, 0));
        p.due("madeUp", NONE, x -> x.madeUp(0));
        p.due("seen", NONE, x -> x.seen(0, 0, 0, 0, true));
        p.due("likes", NONE, x -> x.likes(0));
        p.due("probe", NONE, x -> x.probe(0, 0, 0));
        p.due("leaves", NONE, x -> x.leaves(0));
        p.due("game", HIDDEN, x -> x.game(0, 1, 0, 0, 0));
        p.due("rests", NONE, x -> x.rests(0, 1, NONE));
        p.due("odds", NONE, x -> x.odds(0, 0, 0));
        p.due("all", NONE, x -> x.all(0));
        p.due("kinds", NONE, x -> x.kinds(0));
        p.due("staying", NONE, x -> x.staying(0));
        p.due("image", NONE, GongHouse::image);
        p.due("back", NONE, GongHouse::back);
        p.due("text of a FAULT", NONE, x -> x.text(2));
        p.apart("count", x -> x.count(7));
    }

    private static void texts(Place midway, Place full) {
        CHECK.of("P2: NONE: more than 240");
        full.due("feed of one", NONE, x -> x.feed(0, 0, 0, 0, 1));
        full.due("feed of twenty", NONE, x -> x.feed(-1, -1, -1, -1, -1));
        full.due("feed of nothing", 240, x -> x.feed(0, 0, 0, 0, 0));
        CHECK.of("P3: False: n");
        for (int n : new int[] {-1, 6, 240, 241, LOWEST, HIGHEST}) {
            midway.due("end(" + n + ")", 0, x -> x.end(n) ? 1 : 0);
        }
        full.due("end(241)", 0, x -> x.end(241) ? 1 : 0);
        full.due("end at its end", 1, x -> x.end(240) ? 1 : 0);
        CHECK.of("P4: the FAULT (a question); -2: no such sort");
        for (int sort : new int[] {-1, 3, LOWEST, HIGHEST}) {
            midway.due("fault(" + sort + ")", -2, x -> x.fault(sort));
            CHECK.of("P5: NONE: no such sort");
            midway.due("text(" + sort + ")", NONE, x -> x.text(sort));
        }
        midway.due("fault(0)", 0, x -> x.fault(0));
        midway.due("fault(1)", 0, x -> x.fault(1));
        midway.due("fault(2)", NONE, x -> x.fault(2));
        CHECK.of("P5: NONE: a FAULT");
        midway.due("text(0)", NONE, x -> x.text(0));
        midway.due("text(1)", NONE, x -> x.text(1));
        full.due("text(1)", NONE, x -> x.text(1));
        full.due("text(2)", NONE, x -> x.text(2));
        CHECK.of("P5: NONE: there are four");
        Place fifthWeek = new Place("a fifth WEEK to come", x -> {
            full(x);
            Check.tape(x, "d;i;u");
        });
        fifthWeek.due("text(2)", NONE, x -> x.text(2));
        Place fifthLaw = new Place("a fifth LAW to come", x -> {
            full(x);
            Check.tape(x, "y:w=0?5;y:7");
        });
        fifthLaw.due("text(1)", NONE, x -> x.text(1));
        fifthLaw.due("fault(1)", NONE, x -> x.fault(1));
        CHECK.of("P5: NONE: a FAULT at the very end leaves the HOUSE, too");
        Place other = new Place("a HOUSE with a FAULT to come", x -> {
            midway(x);
            Check.tape(x, "sl3h9c99;dw1;dw2;gs1;gs2;gs3p10");
        });
        other.due("text(0)", NONE, x -> x.text(0));
        other.due("fault(0)", 30, x -> x.fault(0));
    }

    private static void told(Place p) {
        for (int far : new int[] {-1, 13, LOWEST, HIGHEST}) {
            CHECK.of("P6: NONE: no such what");
            p.due("rule(" + far + ")", NONE, x -> x.rule(far));
            CHECK.of("P7: NONE: no such ones");
            p.due("dish(" + far + ", 0)", NONE, x -> x.dish(far, 0));
            p.due("dish(0, " + far + ")", NONE, x -> x.dish(0, far));
            CHECK.of("P8: NoSuchElementException: no such ones");
            p.due("guest(" + far + ", 0)", THROWS, x -> Check.guest(x, far, 0));
            p.due("guest(0, " + far + ")", THROWS, x -> Check.guest(x, 0, far));
            CHECK.of("P19, P20, P40: HIDDEN: no such ones");
            p.due("log(0, " + far + ")", HIDDEN, x -> x.log(0, far));
            p.due("step(" + far + ", 0, 0)", HIDDEN, x -> x.step(far, 0, 0));
            p.due("step(1, " + far + ", 0)", HIDDEN, x -> x.step(1, far, 0));
            p.due("step(0, 0, " + far + ")", HIDDEN, x -> x.step(0, 0, far));
            p.due("count(" + far + ")", HIDDEN, x -> x.count(far));
            CHECK.of("P10: False: out of bounds");
            p.due("fever(" + far + ")", 0, x -> x.fever(far) ? 1 : 0);
        }
        for (int far : new int[] {-1, 60, LOWEST, HIGHEST}) {
            CHECK.of("P19: HIDDEN: no such ones");
            p.due("log(" + far + ", 0)", HIDDEN, x -> x.log(far, 0));
        }
        for (int far : new int[] {-2, 4, LOWEST, HIGHEST}) {
            CHECK.of("P9: False: no such one");
            p.due("law(" + far + ")", 0, x -> x.law(far) ? 1 : 0);
        }
        CHECK.of("P10: False: it is so");
        p.due("fever as it is", 0, x -> x.fever(x.count(9)) ? 1 : 0);
        CHECK.of("P9: the LAW that holds already");
        p.due("law as it is", 1, x -> x.law(x.count(5)) ? 1 : 0);
    }

    private static void acts(Place p) {
        for (int far : new int[] {-1, 4, 10, LOWEST, HIGHEST}) {
            CHECK.of("P12: -2: no such one");
            p.due("choose(" + far + ")", -2, x -> x.choose(far));
            CHECK.of("P15: NONE: no such GUEST, out of bounds");
            p.due("stay(" + far + ", 1)", NONE, x -> x.stay(far, 1));
            CHECK.of("P16: NONE: no such ones");
            p.due("sign(" + far + ", 0)", NONE, x -> x.sign(far, 0));
            p.due("sign(0, " + far + ")", NONE, x -> x.sign(0, far));
            CHECK.of("P22: NONE: no such WEEK");
            p.due("perform(" + far + ")", NONE, x -> x.perform(far));
        }
        for (int far : new int[] {-1, 0, 10, 31, LOWEST, HIGHEST}) {
            CHECK.of("P15: NONE: out of bounds");
            p.due("stay(0, " + far + ")", NONE, x -> x.stay(0, far));
        }
        for (int far : new int[] {-1, 0, 31, LOWEST, HIGHEST}) {
            CHECK.of("P17: NONE: out of bounds");
            p.due("years(" + far + ")", NONE, x -> x.years(far, 1));
        }
        CHECK.of("P12: -2: it is so");
        p.due("choose(1)", -2, x -> x.choose(1));
        CHECK.of("P14: NONE: too few COINS");
        p.due("makeUp()", NONE, GongHouse::makeUp);
        CHECK.of("P15: NONE: he LEFT");
        p.due("stay(3, 1)", NONE, x -> x.stay(3, 1));
        CHECK.of("P16: NONE: it is so");
        p.due("sign(0, 3)", NONE, x -> x.sign(0, 3));
        CHECK.of("P22: DO up to the first that can't be: none");
        p.due("perform(1)", 0, x -> x.perform(1));
    }

    private static void actsOfFull(Place p) {
        CHECK.of("P13: NONE: three");
        p.due("ill()", NONE, GongHouse::ill);
        CHECK.of("P15: NONE: above 99");
        p.due("stay(0, 1)", NONE, x -> x.stay(0, 1));
        p.due("stay(0, 9)", NONE, x -> x.stay(0, 9));
        CHECK.of("P12: -2: no such one");
        p.due("choose(5)", -2, x -> x.choose(5));
        CHECK.of("P15, P16: NONE: no such GUEST");
        p.due("stay(6, 1)", NONE, x -> x.stay(6, 1));
        p.due("sign(6, 1)", NONE, x -> x.sign(6, 1));
    }

    private static void actsAtTheEnd(Place p) {
        CHECK.of("P11: NONE: beyond 999");
        p.due("day()", NONE, GongHouse::day);
        CHECK.of("P17: NONE: beyond 999");
        p.due("years(1)", NONE, x -> x.years(1, 1));
        p.due("years(30)", NONE, x -> x.years(30, -1));
        CHECK.of("P14: NONE: none");
        p.due("makeUp()", NONE, GongHouse::makeUp);
        CHECK.of("P22: DO: a DAY beyond 999");
        p.due("perform(0)", 0, x -> x.perform(0));
        CHECK.of("P38: the same IMAGE once more");
        p.due("image()", 999, GongHouse::image);
        CHECK.of("P18: NONE: none");
        Place fresh = new Place("a HOUSE without ACTS", x -> {
            Check.tape(x, "d;g");
            x.text(0);
        });
        fresh.due("undo()", NONE, GongHouse::undo);
        CHECK.of("P39: NONE: no IMAGE of this HOUSE");
        fresh.due("back()", NONE, GongHouse::back);
        Place done = new Place("a HOUSE of which all is UNDONE", x -> {
            Check.tape(x, "d;g");
            x.text(0);
            Check.days(x, 3);
            x.back();
            x.undo();
            x.undo();
            x.undo();
        });
        done.due("undo()", NONE, GongHouse::undo);
    }

    private static void oneMoreThanFull(Place p) {
        CHECK.of("P20, P21, P22: no such WEEK: a fifth of four");
        p.due("step(4, 0, 0)", HIDDEN, x -> x.step(4, 0, 0));
        p.due("run(4, 0)", HIDDEN, x -> x.run(4, 0));
        p.due("perform(4)", NONE, x -> x.perform(4));
        CHECK.of("P20: no such STEP: a 17th of sixteen");
        p.due("step(0, 16, 0)", HIDDEN, x -> x.step(0, 16, 0));
        CHECK.of("P7, P8, P25 to P37: a sixth DISH of five, a seventh GUEST of six");
        p.due("dish(5, 0)", NONE, x -> x.dish(5, 0));
        p.due("guest(6, 0)", THROWS, x -> Check.guest(x, 6, 0));
        p.due("fed(6)", NONE, x -> x.fed(6));
        p.due("likes(6)", NONE, x -> x.likes(6));
        p.due("probe(6, 0, 0)", NONE, x -> x.probe(6, 0, 0));
        p.due("leaves(6)", NONE, x -> x.leaves(6));
        p.due("game(6, 0, 0, 0, 0)", HIDDEN, x -> x.game(6, 0, 0, 0, 0));
        p.due("game(0, 6, 0, 0, 0)", HIDDEN, x -> x.game(0, 6, 0, 0, 0));
        p.due("rests(6, 0, -1)", NONE, x -> x.rests(6, 0, NONE));
        p.due("odds(6, 0, 0)", NONE, x -> x.odds(6, 0, 0));
        p.due("staying(6)", NONE, x -> x.staying(6));
        CHECK.of("P19: a 61st of the LOG's sixty");
        p.due("log(60, 0)", HIDDEN, x -> x.log(60, 0));
    }

    private static void asksRefused(Place p) {
        for (int far : new int[] {-1, 21, LOWEST, HIGHEST}) {
            CHECK.of("P21, P23 to P37: refused");
            p.due("run(" + far + ", 0)", HIDDEN, x -> x.run(far, 0));
            p.due("run(0, " + far + ")", HIDDEN, x -> x.run(0, far));
            p.due("serves(" + far + ", 0)", NONE, x -> x.serves(far, 0));
            p.due("serves(1, " + far + ")", NONE, x -> x.serves(1, far));
            p.due("there(" + far + ")", NONE, x -> x.there(far));
            p.due("fed(" + far + ")", NONE, x -> x.fed(far));
            p.due("best(" + far + ", 0)", HIDDEN, x -> x.best(far, 0));
            p.due("best(1, " + far + ")", HIDDEN, x -> x.best(1, far));
            p.due("madeUp(" + far + ")", NONE, x -> x.madeUp(far));
            p.due("likes(" + far + ")", NONE, x -> x.likes(far));
            p.due("probe(" + far + ", 0, 0)", NONE, x -> x.probe(far, 0, 0));
            p.due("probe(0, " + far + ", 0)", NONE, x -> x.probe(0, far, 0));
            p.due("leaves(" + far + ")", NONE, x -> x.leaves(far));
            p.due("game(" + far + ", 1, 0, 0, 0)", HIDDEN, x -> x.game(far, 1, 0, 0, 0));
            p.due("game(0, " + far + ", 0, 0, 0)", HIDDEN, x -> x.game(0, far, 0, 0, 0));
            p.due("game(0, 1, " + far + ", 0, 0)", HIDDEN, x -> x.game(0, 1, far, 0, 0));
            p.due("game(0, 1, 0, " + far + ", 0)", HIDDEN, x -> x.game(0, 1, 0, far, 0));
            p.due("game(0, 1, 0, 0, " + far + ")", HIDDEN, x -> x.game(0, 1, 0, 0, far));
            p.due("rests(" + far + ", 1, -1)", NONE, x -> x.rests(far, 1, NONE));
            p.due("rests(0, " + far + ", -1)", NONE, x -> x.rests(0, far, NONE));
            p.due("odds(" + far + ", 0, 0)", NONE, x -> x.odds(far, 0, 0));
            p.due("odds(0, " + far + ", 0)", NONE, x -> x.odds(0, far, 0));
            p.due("all(" + far + ")", NONE, x -> x.all(far));
            p.due("kinds(" + far + ")", NONE, x -> x.kinds(far));
            p.due("staying(" + far + ")", NONE, x -> x.staying(far));
        }
        for (int far : new int[] {-2, 16, LOWEST, HIGHEST}) {
            p.due("rests(0, 1, " + far + ")", NONE, x -> x.rests(0, 1, far));
        }
        for (int far : new int[] {-10, 21, LOWEST, HIGHEST}) {
            p.due("probe(0, 0, " + far + ")", NONE, x -> x.probe(0, 0, far));
        }
        for (int far : new int[] {-1, 101, LOWEST, HIGHEST}) {
            p.due("odds(0, 0, " + far + ")", NONE, x -> x.odds(0, 0, far));
        }
        CHECK.of("P25: NONE: he is not THERE");
        p.due("fed(1)", NONE, x -> x.fed(1));
        p.due("fed(2)", NONE, x -> x.fed(2));
        p.due("fed(3)", NONE, x -> x.fed(3));
        CHECK.of("P31: NONE: he LEFT");
        p.due("leaves(3)", NONE, x -> x.leaves(3));
        CHECK.of("P32, P33: alike, one LEFT");
        p.due("game(0, 0, 0, 0, 0)", HIDDEN, x -> x.game(0, 0, 0, 0, 0));
        p.due("game(0, 3, 0, 0, 0)", HIDDEN, x -> x.game(0, 3, 0, 0, 0));
        p.due("game(3, 0, 0, 0, 0)", HIDDEN, x -> x.game(3, 0, 0, 0, 0));
        p.due("rests(0, 0, -1)", NONE, x -> x.rests(0, 0, NONE));
        p.due("rests(3, 0, -1)", NONE, x -> x.rests(3, 0, NONE));
    }

    private static void sights(Place midway, Place full) {
        CHECK.of("P28: NONE: there are ten");
        full.due("seen", NONE, x -> x.seen(0, 0, 0, 0, true));
        CHECK.of("P28: NONE: no such ones, out of bounds");
        for (int far : new int[] {-1, 21, LOWEST, HIGHEST}) {
            midway.due("seen of guest " + far, NONE, x -> x.seen(far, 0, 0, 0, true));
            midway.due("seen of dish " + far, NONE, x -> x.seen(0, far, 0, 0, true));
            midway.due("seen of w " + far, NONE, x -> x.seen(0, 0, far, 0, true));
        }
        for (int far : new int[] {-10, 21, LOWEST, HIGHEST}) {
            midway.due("seen of v " + far, NONE, x -> x.seen(0, 0, 0, far, true));
        }
        midway.due("seen of guest 4", NONE, x -> x.seen(4, 0, 0, 0, true));
        midway.due("seen of dish 3", NONE, x -> x.seen(0, 3, 0, 0, true));
    }

    /** One object had all there can be ahead of this HOUSE, the other had none: no look tells them apart. */
    private static void anotherHouse() {
        CHECK.of("P5: all that was of another one, SEEN, too, is gone but LAWS, which holds, WEEKS, FEVER");
        String[] houses = {"d;g", "sl0;dw1c9k1;gs3p0l2", "sl2;d;dk1;g;ga3l1", "s;d;d;d;d;gs1;ga1s1;ga20;g;g"};
        for (String house : houses) {
            for (int days = 0; days < 3; days++) {
                int n = days;
                Place alone = new Place("'" + house + "' on DAY " + n, x -> {
                    textsOfFull(x);
                    moveIn(x, house, n);
                });
                alone.same("'" + house + "' behind another", x -> {
                    full(x);
                    moveIn(x, house, n);
                });
                alone.same("'" + house + "' behind two others", x -> {
                    Check.tape(x, "sl3h9;dw20c0k3;dw20c0k3;dw20k3;gp9l3;gp9l3;gp9l3");
                    x.text(0);
                    full(x);
                    moveIn(x, house, n);
                });
            }
        }
    }

    private static void moveIn(GongHouse x, String house, int days) {
        Check.tape(x, house);
        x.text(0);
        Check.days(x, days);
    }

    // ---- what is answered apart ----

    private static void asksAnswered(Place p) {
        CHECK.of("==== 3: (Apart, from as it is)");
        for (int i = 0; i < 4; i++) {
            int n = i;
            p.apart("run(" + n + ", 0)", x -> x.run(n, 0));
            p.apart("run(" + n + ", 1)", x -> x.run(n, 1));
            p.apart("serves(" + n + ", 1)", x -> x.serves(n, 1));
            p.apart("there(" + 5 * n + ")", x -> x.there(5 * n));
            p.apart("fed(" + n + ")", x -> x.fed(n));
            p.apart("best(" + n + ", 1)", x -> x.best(n, 1));
            p.apart("madeUp(" + 6 * n + ")", x -> x.madeUp(6 * n));
            p.apart("likes(" + n + ")", x -> x.likes(n));
            p.apart("probe(" + n + ", 9, 3)", x -> x.probe(n, 9, 3));
            p.apart("leaves(" + n + ")", x -> x.leaves(n));
            p.apart("game(0, 1, " + n + ", 3, 1)", x -> x.game(0, 1, n, 3, 1));
            p.apart("rests(0, 2, " + n + ")", x -> x.rests(0, 2, n));
            p.apart("odds(0, " + n + ", 40)", x -> x.odds(0, n, 40));
            p.apart("kinds(" + n + ")", x -> x.kinds(n));
            p.apart("staying(" + n + ")", x -> x.staying(n));
            p.apart("rule(" + n + ")", x -> x.rule(n));
            p.apart("dish(1, " + n + ")", x -> x.dish(1, n));
            p.apart("guest(1, " + n + ")", x -> guestOrThrows(x, n));
            p.apart("log(" + n + ", 2)", x -> x.log(n, 2));
            p.apart("step(0, " + n + ", 1)", x -> x.step(0, n, 1));
        }
        p.apart("serves(20, 0)", x -> x.serves(20, 0));
        p.apart("there(20)", x -> x.there(20));
        p.apart("odds(0, 4, 99)", x -> x.odds(0, 4, 99));
        for (int i = 0; i < 13; i++) {
            int what = i;
            p.apart("all(" + what + ")", x -> x.all(what));
            p.apart("count(" + what + ")", x -> x.count(what));
        }
    }

    private static long guestOrThrows(GongHouse x, int what) {
        try {
            return x.guest(1, what);
        } catch (NoSuchElementException e) {
            return THROWS;
        }
    }
}
