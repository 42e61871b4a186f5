/** Promises 6 to 9: what is so of persons, plates, dishes, and of all. */
public final class StateTest {
    private static final String TABLE = "person ann 6;person bob 3 of ann;person cid 5 of ann;person dan 2 of bob;"
            + "dish ham 10;dish pea 7 spoils 3;plate ann ham 5;plate ann pea 4;plate bob pea 2;plate dan ham 1;dogs 2;";

    public static void main(String[] args) {
        persons();
        plates();
        dishes();
        nowAll();
        Check.finish("StateTest");
    }

    private static void persons() {
        SecondHelpings x = Check.at(TABLE);
        int[] wants = {6, 3, 5, 2};
        int[] parents = {-1, 0, 0, 1};
        int[] parts = {9, 2, 0, 1};
        int[] children = {6, 8, 0, 0};
        for (int p = 0; p < 4; p++) {
            Check.due("person(p, 0)", x.person(p, 0), wants[p]);
            Check.due("person(p, 1)", x.person(p, 1), parents[p]);
            Check.due("person(p, 7)", x.person(p, 7), parts[p]);
            Check.due("person(p, 8)", x.person(p, 8), children[p]);
            for (int what = 2; what < 7; what++) {
                Check.due("person(p, " + what + ")", x.person(p, what), 0);
            }
        }
        Check.due("eat", x.eat(0, 1, 2), 0);
        Check.due("eat", x.eat(0, 0, 3), 0);
        Check.due("refuse", x.refuse(2), 0);
        Check.due("person(0, 4)", x.person(0, 4), 5);
        Check.due("person(0, 5)", x.person(0, 5), 5);
        Check.due("person(0, 6)", x.person(0, 6), 0);
        Check.due("person(0, 7)", x.person(0, 7), 4);
        Check.due("person(2, 3)", x.person(2, 3), 1);
        x.meals(1);
        Check.due("person(0, 4)", x.person(0, 4), 5);
        Check.due("person(0, 5)", x.person(0, 5), 0);
        Check.due("person(0, 6)", x.person(0, 6), 1);
        Check.due("person(2, 6)", x.person(2, 6), 5);
        x.die(2);
        Check.due("person(2, 2)", x.person(2, 2), 1);
        Check.due("person(2, 3)", x.person(2, 3), 1);
        Check.due("person(1, 2)", x.person(1, 2), 0);
        Check.due("person(0, 8), the dead ones too", x.person(0, 8), 6);
        int[][] none = {{-1, 0}, {4, 0}, {7, 0}, {0, -1}, {0, 9}, {4, 9}, {Integer.MIN_VALUE, 0}, {0, Integer.MAX_VALUE}};
        String before = Check.all(x);
        for (int[] pair : none) {
            Check.due("person throws", Check.noSuchPerson(x, pair[0], pair[1]), true);
        }
        Check.due("all", Check.all(x), before);
        Check.due("person throws", Check.noSuchPerson(new SecondHelpings(), 0, 0), true);
    }

    private static void plates() {
        SecondHelpings x = Check.at(TABLE);
        int[][] due = {{5, 4}, {0, 2}, {0, 0}, {1, 0}};
        for (int p = -1; p <= 4; p++) {
            for (int d = -1; d <= 2; d++) {
                boolean such = p >= 0 && p < 4 && d >= 0 && d < 2;
                Check.due("plate", x.plate(p, d), such ? due[p][d] : -1);
            }
        }
        Check.due("plate", x.plate(Integer.MAX_VALUE, 0), -1);
        Check.due("plate", x.plate(0, Integer.MIN_VALUE), -1);
    }

    private static void dishes() {
        SecondHelpings x = Check.at(TABLE);
        int[][] due = {{10, 0, 6}, {7, 3, 6}};
        for (int d = -1; d <= 2; d++) {
            for (int what = -1; what <= 3; what++) {
                boolean such = d >= 0 && d < 2 && what >= 0 && what < 3;
                Check.due("dish(" + d + ", " + what + ")", x.dish(d, what), such ? due[d][what] : -1);
            }
        }
        x.serve(2, 0, 4);
        Check.due("dish(0, 0)", x.dish(0, 0), 6);
        Check.due("dish(0, 2)", x.dish(0, 2), 10);
    }

    private static void nowAll() {
        SecondHelpings x = Check.at(TABLE);
        for (int what = 0; what < 8; what++) {
            Check.due("now", x.now(what), 0);
        }
        x.eat(0, 0, 4);
        x.eat(1, 1, 1);
        x.refuse(1);
        x.refuse(3);
        Check.due("now(5)", x.now(5), 5);
        Check.due("now(2)", x.now(2), 10);
        x.meals(2);
        // HUNGER: ann 2 + 6, bob 2 + 3, cid 10, dan 4; of the peas ann loses 3 and 1, bob his last 1
        Check.due("now(0)", x.now(0), 2);
        Check.due("now(6)", x.now(6), 27);
        Check.due("now(4)", x.now(4), 5);
        x.die(0);
        // ann has 1 ham: the dogs have it
        Check.due("now(1)", x.now(1), 1);
        Check.due("now(3)", x.now(3), 1);
        Check.due("now(7)", x.now(7), 1);
        x.die(2);
        Check.due("now(1)", x.now(1), 5);
        Check.due("now(7), of an empty plate", x.now(7), 1);
        x.meals(1);
        // the dead ones keep their HUNGER, and have no more
        Check.due("now(6)", x.now(6), 32);
        Check.due("now(5)", x.now(5), 5);
        x.accept(3);
        Check.due("now(2)", x.now(2), 2);
        Check.due("now(8)", x.now(8), -1);
        Check.due("now(-1)", x.now(-1), -1);
    }
}
