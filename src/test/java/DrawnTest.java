/** Promises 34 and 35: MEALS by draws. */
public final class DrawnTest {
    private static final String TABLE = "person ann 3;person bob 2 of ann;person cid 4;dish ham 9;dish pea 9 spoils 1;"
            + "plate ann ham 20;plate bob pea 12;plate bob ham 3;plate cid pea 5;dogs 1;";

    private static int seed;

    public static void main(String[] args) {
        byHand();
        likeActs();
        edges();
        odds();
        Check.finish("DrawnTest");
    }

    private static int draw(int n) {
        seed = seed * 1103515245 + 12345;
        return (seed >>> 8) % n;
    }

    /** Seeds and what they draw, worked out apart from the program. */
    private static void byHand() {
        // seed 0: x is 12345, the draw of 6 is 48 % 6 = 0: he rises
        SecondHelpings x = Check.at("person a 3;dish d 0;plate a d 9;");
        Check.due("drawn(1, 0)", x.drawn(1, 0), 1);
        Check.due("back into the dish", x.dish(0, 0), 9);
        Check.due("now(7)", x.now(7), 1);
        Check.due("now(6)", x.now(6), 3);
        Check.due("now(0)", x.now(0), 1);
        // seed 1: x is 1103527590, 4310654 % 6 = 2: he eats
        SecondHelpings y = Check.at("person a 3;dish d 0;dish e 0;plate a d 2;plate a e 9;");
        Check.due("drawn(1, 1)", y.drawn(1, 1), 1);
        Check.due("plate(0, 0)", y.plate(0, 0), 0);
        Check.due("plate(0, 1)", y.plate(0, 1), 8);
        Check.due("person(0, 4)", y.person(0, 4), 3);
        Check.due("person(0, 5)", y.person(0, 5), 0);
        Check.due("now(6)", y.now(6), 0);
    }

    /** One MEAL at a time by acts on a second object, with the draws made here. */
    private static void likeActs() {
        for (int first = -40; first < 60; first++) {
            SecondHelpings x = Check.at(TABLE);
            SecondHelpings y = Check.at(TABLE);
            Check.due("drawn", x.drawn(12, first * 7919), 12);
            seed = first * 7919;
            for (int meal = 0; meal < 12; meal++) {
                for (int p = 0; p < 3; p++) {
                    if (y.person(p, 2) == 0) {
                        act(y, p);
                    }
                }
                y.meals(1);
            }
            Check.due("all", Check.all(x), Check.all(y));
        }
    }

    private static void act(SecondHelpings y, int p) {
        int drawn = draw(6);
        if (drawn == 0) {
            y.rise(p);
        } else if (drawn == 1) {
            if (draw(4) == 0) {
                y.die(p);
            }
        } else {
            for (int d = 0; d < 2; d++) {
                for (int n = 20; n >= 1 && y.eat(p, d, n) != 0; n--) {
                    continue;
                }
            }
        }
    }

    private static void edges() {
        SecondHelpings x = Check.at(TABLE);
        for (int n : new int[] {0, -1, 61, Integer.MIN_VALUE, Integer.MAX_VALUE}) {
            Check.due("drawn(" + n + ", 1)", x.drawn(n, 1), -1);
        }
        Check.due("now(0)", x.now(0), 0);
        Check.due("no PERSONS", new SecondHelpings().drawn(1, 1), -1);
        Check.due("no PERSONS", Check.at("dish d 1;").drawn(1, 1), -1);
        for (int i = 1; i <= 3; i++) {
            Check.due("drawn(60, i)", x.drawn(60, i), 60);
        }
        Check.due("drawn(60, 4)", x.drawn(60, 4), 20);
        String end = Check.all(x);
        Check.due("drawn(60, 5)", x.drawn(60, 5), 0);
        Check.due("all", Check.all(x), end);
        x.undo();
        Check.due("now(0)", x.now(0), 180);
        // all are dead: MEALS go by yet
        SecondHelpings y = Check.at(TABLE);
        for (int p = 0; p < 3; p++) {
            y.die(p);
        }
        Check.due("drawn(5, 1)", y.drawn(5, 1), 5);
        Check.due("now(6)", y.now(6), 0);
    }

    private static int lived(int p, int n, int first, SecondHelpings at) {
        int lived = 0;
        for (int i = 0; i < n; i++) {
            at.drawn(10, first + i);
            lived += 1 - at.person(p, 2);
            at.undo();
        }
        return lived;
    }

    private static void odds() {
        SecondHelpings x = Check.at(TABLE);
        int[] seeds = {0, 1, -1, 77, Integer.MAX_VALUE - 5, 123456789};
        int below = 0;
        for (int first : seeds) {
            for (int p = 0; p < 3; p++) {
                SecondHelpings y = Check.at(TABLE);
                int due = lived(p, 30, first, y);
                below += due < 30 ? 1 : 0;
                String before = Check.all(x);
                Check.due("odds", x.odds(p, 30, first), due);
                Check.due("all stays", Check.all(x), before);
            }
        }
        Check.due("some die", below > 0, true);
        Check.due("odds(0, 1, 0)", x.odds(0, 1, 0), lived(0, 1, 0, Check.at(TABLE)));
        Check.due("undo(), odds is no act", x.undo(), -1);
        x.die(1);
        Check.due("a dead one", x.odds(1, 30, 3), 0);
        Check.due("odds(-1, 1, 1)", x.odds(-1, 1, 1), -1);
        Check.due("odds(3, 1, 1)", x.odds(3, 1, 1), -1);
        Check.due("odds(0, 0, 1)", x.odds(0, 0, 1), -1);
        Check.due("odds(0, 31, 1)", x.odds(0, 31, 1), -1);
        for (int i = 0; i < 4; i++) {
            x.meals(i < 3 ? 60 : 20);
        }
        Check.due("no MEALS are left", x.odds(0, 30, 1), 30);
    }
}
