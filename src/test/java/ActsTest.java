/** Promises 10 to 17: acts, MEALS, and acts undone. */
public final class ActsTest {
    private static final String TABLE = "person ann 6;person bob 3 of ann;person cid 5 of ann;person dan 20 of bob;"
            + "dish ham 50;dish pea 7 spoils 3;plate ann ham 5;plate ann pea 4;plate bob pea 2;plate dan ham 30;dogs 2;";

    public static void main(String[] args) {
        eating();
        serving();
        rising();
        passingBack();
        refusing();
        accepting();
        dying();
        mealsGo();
        undone();
        keptEight();
        Check.finish("ActsTest");
    }

    private static void eating() {
        SecondHelpings x = Check.at(TABLE);
        int[][] none = {{-1, 0, 1}, {4, 0, 1}, {0, -1, 1}, {0, 2, 1}, {0, 0, 0}, {0, 0, -1}, {0, 0, 21}, {0, 0, Integer.MIN_VALUE}};
        for (int[] a : none) {
            Check.due("eat", x.eat(a[0], a[1], a[2]), -1);
        }
        Check.due("2 ahead of 3", x.eat(0, 0, 20), 2);
        Check.due("eat(0, 0, 6)", x.eat(0, 0, 6), 2);
        Check.due("eat(0, 0, 5)", x.eat(0, 0, 5), 0);
        Check.due("plate(0, 0)", x.plate(0, 0), 0);
        Check.due("eat(0, 1, 2)", x.eat(0, 1, 2), 3);
        Check.due("eat(0, 1, 1)", x.eat(0, 1, 1), 0);
        Check.due("person(0, 4)", x.person(0, 4), 6);
        Check.due("eat(0, 1, 1)", x.eat(0, 1, 1), 3);
        Check.due("eat(3, 0, 20)", x.eat(3, 0, 20), 0);
        Check.due("dish(0, 0)", x.dish(0, 0), 50);
        x.meals(1);
        Check.due("eat(3, 0, 10)", x.eat(3, 0, 10), 0);
        Check.due("person(3, 4)", x.person(3, 4), 30);
        Check.due("person(3, 5)", x.person(3, 5), 10);
        x.die(0);
        Check.due("dead, ahead of all", x.eat(0, 0, 20), 1);
        // one who refuses eats
        SecondHelpings y = Check.at(TABLE);
        y.refuse(0);
        Check.due("eat", y.eat(0, 0, 1), 0);
    }

    private static void serving() {
        SecondHelpings x = Check.at(TABLE);
        int[][] none = {{-1, 0, 1}, {4, 0, 1}, {0, -1, 1}, {0, 2, 1}, {0, 0, 0}, {0, 0, 41}, {0, 0, -7}};
        for (int[] a : none) {
            Check.due("serve", x.serve(a[0], a[1], a[2]), -1);
        }
        Check.due("serve(2, 1, 8)", x.serve(2, 1, 8), 2);
        Check.due("serve(2, 1, 7)", x.serve(2, 1, 7), 0);
        Check.due("dish(1, 0)", x.dish(1, 0), 0);
        Check.due("plate(2, 1)", x.plate(2, 1), 7);
        Check.due("serve(2, 1, 1)", x.serve(2, 1, 1), 2);
        Check.due("serve(0, 0, 40)", x.serve(0, 0, 40), 0);
        Check.due("plate(0, 0)", x.plate(0, 0), 45);
        x.die(2);
        Check.due("dead, ahead of fewer", x.serve(2, 1, 40), 1);
        x.refuse(1);
        Check.due("one who refuses is served", x.serve(1, 0, 10), 0);
        Check.due("dish(0, 0)", x.dish(0, 0), 0);
    }

    private static void rising() {
        SecondHelpings x = Check.at(TABLE);
        Check.due("rise(-1)", x.rise(-1), -1);
        Check.due("rise(4)", x.rise(4), -1);
        Check.due("rise(2)", x.rise(2), 2);
        Check.due("now(7)", x.now(7), 0);
        // the dogs have 2 of the ham, bob the rest
        Check.due("rise(0)", x.rise(0), 0);
        Check.due("plate(0, 0)", x.plate(0, 0), 0);
        Check.due("plate(0, 1)", x.plate(0, 1), 0);
        Check.due("plate(1, 0)", x.plate(1, 0), 3);
        Check.due("plate(1, 1)", x.plate(1, 1), 6);
        Check.due("now(3)", x.now(3), 2);
        Check.due("now(7)", x.now(7), 1);
        Check.due("rise(0)", x.rise(0), 2);
        x.die(0);
        Check.due("rise(0)", x.rise(0), 1);
        // DISH by DISH: 1 of the first, the other ones of the second
        SecondHelpings y = Check.at("person a 1;person b 1;dish c 0;dish d 0;dish e 0;plate a c 1;plate a d 9;plate a e 2;dogs 4;");
        y.rise(0);
        Check.due("plate(1, 0)", y.plate(1, 0), 0);
        Check.due("plate(1, 1)", y.plate(1, 1), 6);
        Check.due("plate(1, 2)", y.plate(1, 2), 2);
        // all that there are: a plate of which nothing is left has been passed on, too
        SecondHelpings z = Check.at("person a 1;person b 1;dish c 0;plate a c 3;dogs 9;");
        Check.due("rise(0)", z.rise(0), 0);
        Check.due("now(3)", z.now(3), 3);
        Check.due("now(7)", z.now(7), 1);
        Check.due("plate(1, 0)", z.plate(1, 0), 0);
    }

    private static void passingBack() {
        SecondHelpings x = Check.at("person a 1;person b 1;dish c 5;dish d 0;plate a c 4;plate a d 3;plate b d 1;dogs 1;");
        x.refuse(1);
        Check.due("rise(0)", x.rise(0), 0);
        Check.due("dish(0, 0)", x.dish(0, 0), 8);
        Check.due("dish(1, 0)", x.dish(1, 0), 3);
        Check.due("plate(1, 1)", x.plate(1, 1), 1);
        Check.due("now(3)", x.now(3), 1);
        Check.due("now(7)", x.now(7), 1);
        SecondHelpings y = Check.at("person a 1;dish c 99;plate a c 40;");
        Check.due("die(0)", y.die(0), 0);
        Check.due("dish(0, 0)", y.dish(0, 0), 139);
        Check.due("dish(0, 2)", y.dish(0, 2), 0);
    }

    private static void refusing() {
        SecondHelpings x = Check.at(TABLE);
        Check.due("refuse(-1)", x.refuse(-1), -1);
        Check.due("refuse(4)", x.refuse(4), -1);
        Check.due("refuse(1)", x.refuse(1), 0);
        Check.due("refuse(1)", x.refuse(1), 2);
        Check.due("now(2)", x.now(2), 2);
        x.rise(0);
        Check.due("plate(1, 1)", x.plate(1, 1), 2);
        Check.due("plate(2, 0)", x.plate(2, 0), 3);
        x.die(1);
        Check.due("dead, ahead of refusing", x.refuse(1), 1);
        Check.due("he refuses yet", x.now(2), 2);
    }

    private static void accepting() {
        SecondHelpings x = Check.at(TABLE);
        Check.due("accept(-1)", x.accept(-1), -1);
        Check.due("accept(4)", x.accept(4), -1);
        Check.due("accept(1)", x.accept(1), 2);
        x.refuse(1);
        x.refuse(2);
        Check.due("accept(1)", x.accept(1), 0);
        Check.due("accept(1)", x.accept(1), 2);
        Check.due("now(2)", x.now(2), 4);
        Check.due("heir(0)", x.heir(0), 1);
        x.die(2);
        x.die(3);
        Check.due("accept(2)", x.accept(2), 1);
        Check.due("accept(3)", x.accept(3), 1);
    }

    private static void dying() {
        SecondHelpings x = Check.at(TABLE);
        Check.due("die(-1)", x.die(-1), -1);
        Check.due("die(4)", x.die(4), -1);
        Check.due("die(3)", x.die(3), 0);
        Check.due("plate(3, 0)", x.plate(3, 0), 0);
        Check.due("plate(0, 0)", x.plate(0, 0), 33);
        Check.due("now(3)", x.now(3), 2);
        Check.due("die(3)", x.die(3), 1);
        Check.due("die(2)", x.die(2), 0);
        Check.due("now(7)", x.now(7), 1);
        Check.due("now(1)", x.now(1), 12);
        Check.due("die(1)", x.die(1), 0);
        Check.due("the dogs have the 2 peas", x.plate(0, 1), 4);
        Check.due("die(0)", x.die(0), 0);
        Check.due("dish(0, 0)", x.dish(0, 0), 50 + 31);
        Check.due("dish(1, 0)", x.dish(1, 0), 7 + 4);
        Check.due("now(1)", x.now(1), 15);
    }

    private static void mealsGo() {
        SecondHelpings x = Check.at(TABLE);
        for (int n : new int[] {0, -1, 61, Integer.MAX_VALUE, Integer.MIN_VALUE}) {
            Check.due("meals(" + n + ")", x.meals(n), -1);
        }
        Check.due("now(0)", x.now(0), 0);
        x.eat(0, 1, 1);
        Check.due("meals(1)", x.meals(1), 1);
        Check.due("person(0, 6)", x.person(0, 6), 5);
        Check.due("person(0, 5)", x.person(0, 5), 0);
        Check.due("plate(0, 1)", x.plate(0, 1), 0);
        Check.due("plate(1, 1)", x.plate(1, 1), 0);
        Check.due("plate(0, 0) spoils not", x.plate(0, 0), 5);
        Check.due("dish(1, 0) in the dish spoils not", x.dish(1, 0), 7);
        Check.due("now(4)", x.now(4), 5);
        Check.due("meals(60)", x.meals(60), 60);
        Check.due("meals(60)", x.meals(60), 60);
        Check.due("meals(60)", x.meals(60), 60);
        Check.due("now(0)", x.now(0), 181);
        Check.due("meals(20)", x.meals(20), 19);
        Check.due("now(0)", x.now(0), 200);
        Check.due("person(3, 6)", x.person(3, 6), 4000);
        Check.due("meals(1)", x.meals(1), 0);
        Check.due("meals(61)", x.meals(61), -1);
        Check.due("now(6)", x.now(6), 5 + 199 * 6 + 200 * 28);
        Check.due("undo(): of 19 MEALS, not of 0", x.undo(), 5);
        Check.due("now(0)", x.now(0), 181);
    }

    private static void undone() {
        SecondHelpings x = Check.at(TABLE);
        Check.due("undo()", x.undo(), -1);
        String[] before = new String[9];
        before[0] = Check.all(x);
        x.eat(0, 0, 2);
        before[1] = Check.all(x);
        x.serve(2, 1, 3);
        before[2] = Check.all(x);
        x.refuse(2);
        before[3] = Check.all(x);
        x.rise(0);
        before[4] = Check.all(x);
        x.meals(2);
        before[5] = Check.all(x);
        x.accept(2);
        before[6] = Check.all(x);
        x.die(1);
        before[7] = Check.all(x);
        x.drawn(3, 5);
        // what was not done is no act: NONE, why not, no MEALS
        x.eat(9, 0, 1);
        x.eat(1, 0, 1);
        x.die(1);
        x.accept(0);
        x.meals(0);
        x.drawn(0, 1);
        for (int i = 7; i >= 0; i--) {
            Check.due("undo()", x.undo(), i);
            Check.due("all as before " + i, Check.all(x), before[i]);
        }
        Check.due("undo()", x.undo(), -1);
        Check.due("all", Check.all(x), before[0]);
        Check.due("a BOOK", Check.book(x, "ann eats ham 1;meal 1;bob dies;ann rises;ann rises;", 1), 4);
        Check.due("now(0)", x.now(0), 1);
        Check.due("judged alone", Check.book(x, "meal 1;", 0), -1);
        Check.due("undo()", x.undo(), 0);
        Check.due("all", Check.all(x), before[0]);
        Check.due("undo()", x.undo(), -1);
        Check.due("a BOOK with a FAULT", Check.book(x, "meal 1;meal", 1), -13);
        Check.due("undo()", x.undo(), -1);
        Check.due("drawn", x.drawn(2, 3), 2);
        Check.due("sentence", Check.sentence(x, "clean"), 1);
        Check.due("undo()", x.undo(), 0);
        Check.due("the SENTENCE stays", x.said(-1), 1);
        Check.due("no MEAL drawn at the end", endOf(x).drawn(1, 1), 0);
        Check.due("undo()", x.undo(), 3);
    }

    private static SecondHelpings endOf(SecondHelpings x) {
        x.meals(60);
        x.meals(60);
        x.meals(60);
        x.meals(60);
        Check.due("now(0)", x.now(0), 200);
        return x;
    }

    private static void keptEight() {
        SecondHelpings x = Check.at(TABLE);
        for (int i = 0; i < 30; i++) {
            Check.due("serve", x.serve(2, 0, 1), 0);
        }
        for (int i = 7; i >= 0; i--) {
            Check.due("undo()", x.undo(), i);
            Check.due("plate(2, 0)", x.plate(2, 0), 22 + i);
        }
        Check.due("undo()", x.undo(), -1);
        Check.due("plate(2, 0)", x.plate(2, 0), 22);
        // an act that was not done, while eight are kept, costs none of them
        for (int i = 0; i < 8; i++) {
            x.serve(2, 0, 1);
        }
        Check.due("serve", x.serve(2, 0, 40), 2);
        Check.due("undo()", x.undo(), 7);
        Check.due("serve", x.serve(2, 0, 2), 0);
        for (int i = 7; i >= 0; i--) {
            Check.due("undo()", x.undo(), i);
        }
        Check.due("plate(2, 0)", x.plate(2, 0), 22);
    }
}
