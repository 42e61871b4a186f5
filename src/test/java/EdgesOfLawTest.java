/** The edges that '==== 2.' and '==== 3.' of the document name, sentence by sentence. */
public final class EdgesOfLawTest {
    private static final String FOUR = "person a 4;person b 4;person c 4;person d 4;dish x 9;dish y 9;dish z 9;";
    private static final String LEAST = "plate a x 4;plate b x 4;plate c x 4;plate d x 4;law least;";

    public static void main(String[] args) {
        nextGoesRound();
        nextIsNeverHimself();
        childAheadOfNext();
        leastOfOthers();
        noHeirAtAll();
        dogsHaveNoMoreThanThereIs();
        dogsGoDishByDish();
        withoutAnHeir();
        whyNotEat();
        whyNotServe();
        whyNotRise();
        whyNotRefuseOrAccept();
        whyNotDie();
        hungerOfAMeal();
        whatSpoils();
        twoHundredMeals();
        linesOfPersons();
        whatAnOrderCounts();
        firstOfLikeOrders();
        setsOfEaters();
        whomToAsk();
        whatIsLeftOfShares();
        lastParts();
        rowsOfSeats();
        whoDieOneBehindTheOther();
        stepsOfKin();
        textsOfWills();
        eachDraw();
        whoLivesThen();
        aNewTable();
        Check.finish("EdgesOfLawTest");
    }

    // ---- NEXT, HEIR, PASS

    private static void nextGoesRound() {
        Check.says("NEXT of a PERSON: the first one behind him round the table who lives and does not refuse");
        SecondHelpings x = Check.at(FOUR);
        Check.due("behind the last the first", x.heir(3), 0);
        x.die(0);
        Check.due("the dead are not it", x.heir(3), 1);
        x.refuse(1);
        Check.due("nor who refuses", x.heir(3), 2);
        Check.due("of a dead one", x.heir(0), 2);
        Check.due("of one who refuses", x.heir(1), 2);
        x.accept(1);
        Check.due("he does no more", x.heir(3), 1);
    }

    private static void nextIsNeverHimself() {
        Check.says("(himself never)");
        for (String law : new String[] {"", "law child;", "law least;"}) {
            SecondHelpings x = Check.at(FOUR + law);
            x.die(0);
            x.die(1);
            x.refuse(2);
            Check.due("heir(3)", x.heir(3), -1);
            Check.due("heir(2)", x.heir(2), 3);
            x.die(3);
            Check.due("heir(3)", x.heir(3), -1);
            Check.due("one alone", Check.at("person a 1;" + law).heir(0), -1);
        }
    }

    private static void childAheadOfNext() {
        Check.says("child: the first of his children who lives and does not refuse; without such ones NEXT");
        SecondHelpings x = Check.at("person a 1;person b 1;person c 1 of a;person d 1 of a;person e 1 of c;law child;");
        Check.due("heir(0)", x.heir(0), 2);
        Check.due("no children: NEXT", x.heir(1), 2);
        Check.due("no children: NEXT, round the table", x.heir(4), 0);
        x.refuse(2);
        Check.due("the second child", x.heir(0), 3);
        x.die(3);
        Check.due("NEXT, no grandchild", x.heir(0), 1);
        x.die(1);
        Check.due("NEXT is the grandchild", x.heir(0), 4);
        x.accept(2);
        Check.due("the first child again", x.heir(0), 2);
        Check.due("by law next", Check.at("person a 1;person b 1;person c 1 of a;").heir(0), 1);
    }

    private static void leastOfOthers() {
        Check.says("least: of all others who live and do not refuse the one who ate least so far, of like ones the first");
        SecondHelpings x = Check.at(FOUR + LEAST);
        Check.due("all alike", x.heir(0), 1);
        Check.due("all alike", x.heir(3), 0);
        x.eat(0, 0, 2);
        x.eat(1, 0, 1);
        x.eat(2, 0, 1);
        x.eat(3, 0, 3);
        Check.due("heir(0)", x.heir(0), 1);
        Check.due("himself never", x.heir(1), 2);
        Check.due("himself never", x.heir(2), 1);
        x.meals(1);
        x.eat(1, 0, 2);
        Check.due("so far, not at this MEAL", x.heir(3), 2);
        x.die(2);
        Check.due("who lives", x.heir(3), 0);
        x.refuse(0);
        Check.due("who does not refuse", x.heir(3), 1);
        x.refuse(1);
        Check.due("(There may be none.)", x.heir(3), -1);
    }

    private static void noHeirAtAll() {
        Check.says("(There may be none.)");
        for (String law : new String[] {"", "law child;", "law least;"}) {
            SecondHelpings x = Check.at("person a 4;person b 4 of a;person c 4 of a;" + law);
            x.refuse(1);
            x.refuse(2);
            Check.due("heir(0)", x.heir(0), -1);
            Check.due("heir(1)", x.heir(1), 0);
            x.refuse(0);
            Check.due("heir(1)", x.heir(1), -1);
        }
    }

    private static void dogsHaveNoMoreThanThereIs() {
        Check.says("the dogs have as many parts in all as 'dogs' tells, or all that there are");
        for (int dogs = 0; dogs <= 9; dogs++) {
            for (int parts = 1; parts <= 12; parts++) {
                SecondHelpings x = Check.at("person a 1;person b 1;dish x 0;plate a x " + parts + ";dogs " + dogs + ";");
                int had = Math.min(dogs, parts);
                Check.due("rise(0)", x.rise(0), 0);
                Check.due("now(3)", x.now(3), had);
                Check.due("plate(1, 0)", x.plate(1, 0), parts - had);
                Check.due("plate(0, 0)", x.plate(0, 0), 0);
                Check.due("now(7)", x.now(7), 1);
            }
        }
    }

    private static void dogsGoDishByDish() {
        Check.says("going DISH by DISH");
        for (int dogs = 0; dogs <= 9; dogs++) {
            SecondHelpings x = Check.at(FOUR + "plate a x 2;plate a y 3;plate a z 2;plate b y 1;dogs " + dogs + ";");
            x.rise(0);
            Check.due("of the first", x.plate(1, 0), 2 - Math.min(dogs, 2));
            Check.due("of the second", x.plate(1, 1), 1 + 3 - Math.min(Math.max(dogs - 2, 0), 3));
            Check.due("of the third", x.plate(1, 2), 2 - Math.min(Math.max(dogs - 5, 0), 2));
            Check.due("in all", x.now(3), Math.min(dogs, 7));
        }
        Check.says("each time anew");
        SecondHelpings y = Check.at("person a 1;person b 1;dish x 9;plate a x 9;dogs 4;");
        y.rise(0);
        y.rise(1);
        Check.due("now(3)", y.now(3), 8);
        y.rise(0);
        Check.due("now(3)", y.now(3), 9);
        Check.due("now(7)", y.now(7), 3);
        Check.due("rise(1)", y.rise(1), 2);
    }

    private static void withoutAnHeir() {
        Check.says("without an HEIR it goes back into the dishes");
        SecondHelpings x = Check.at("person a 4;dish x 99;dish y 0;plate a x 40;plate a y 3;dogs 1;");
        Check.due("rise(0)", x.rise(0), 0);
        Check.due("beyond 99", x.dish(0, 0), 99 + 39);
        Check.due("dish(1, 0)", x.dish(1, 0), 3);
        Check.due("now(3)", x.now(3), 1);
        Check.due("now(7)", x.now(7), 1);
        Check.due("served again", x.serve(0, 1, 3), 0);
        Check.due("die(0)", x.die(0), 0);
        Check.due("dish(1, 0)", x.dish(1, 0), 2);
    }

    // ---- acts

    private static void whyNotEat() {
        Check.says("To EAT n: why not, the least: 1 he is dead; 2 fewer are on his plate; 3 more than he WANTS");
        SecondHelpings x = Check.at("person a 4;person b 4;dish x 9;plate a x 5;plate b x 3;");
        Check.due("as many as there are, but too much", x.eat(0, 0, 5), 3);
        Check.due("fewer are on it, too much", x.eat(0, 0, 6), 2);
        Check.due("as many as there are", x.eat(1, 0, 3), 0);
        Check.due("none are", x.eat(1, 0, 1), 2);
        Check.due("as much as he WANTS", x.eat(0, 0, 4), 0);
        Check.due("one more", x.eat(0, 0, 1), 3);
        x.meals(1);
        Check.due("at another MEAL", x.eat(0, 0, 1), 0);
        x.die(0);
        Check.due("he is dead, none are on it, too much", x.eat(0, 0, 20), 1);
        SecondHelpings y = Check.at("person a 0;dish x 9;plate a x 1;");
        Check.due("he WANTS 0", y.eat(0, 0, 1), 3);
        SecondHelpings z = Check.at("person a 20;dish x 9;plate a x 40;");
        Check.due("20 at once", z.eat(0, 0, 20), 0);
        Check.due("plate", z.plate(0, 0), 20);
    }

    private static void whyNotServe() {
        Check.says("To be SERVED n: 1 he is dead; 2 the dish has fewer");
        SecondHelpings x = Check.at("person a 4;person b 4;dish x 9;dish y 0;");
        Check.due("one more than there are", x.serve(0, 0, 10), 2);
        Check.due("as many as there are", x.serve(0, 0, 9), 0);
        Check.due("dish(0, 0)", x.dish(0, 0), 0);
        Check.due("plate(0, 0)", x.plate(0, 0), 9);
        Check.due("none are", x.serve(0, 0, 1), 2);
        Check.due("none are", x.serve(0, 1, 1), 2);
        x.die(1);
        Check.due("he is dead, none are", x.serve(1, 1, 1), 1);
        Check.due("more than he WANTS is fine", Check.at("person a 0;dish x 99;").serve(0, 0, 40), 0);
    }

    private static void whyNotRise() {
        Check.says("To RISE: 1 he is dead; 2 nothing is on his plate");
        SecondHelpings x = Check.at("person a 4;person b 4;dish x 9;dish y 9;plate a y 1;");
        Check.due("the last DISH alone", x.rise(0), 0);
        Check.due("nothing is on it", x.rise(0), 2);
        Check.due("now(7)", x.now(7), 1);
        x.die(0);
        Check.due("he is dead, nothing is on it", x.rise(0), 1);
        Check.due("one who refuses", x.refuse(1), 0);
        Check.due("rises", x.rise(1), 0);
        Check.due("back into the dish", x.dish(1, 0), 10);
    }

    private static void whyNotRefuseOrAccept() {
        Check.says("To REFUSE: 1 he is dead; 2 he does");
        SecondHelpings x = Check.at("person a 4;person b 4;dish x 9;plate a x 3;");
        Check.due("refuse(1)", x.refuse(1), 0);
        Check.due("he does", x.refuse(1), 2);
        x.rise(0);
        Check.due("nothing is passed on to him any more", x.plate(1, 0), 0);
        Check.due("dish(0, 0)", x.dish(0, 0), 12);
        Check.says("To ACCEPT: 1 he is dead; 2 he does not refuse: he refuses no more");
        Check.due("he does not", x.accept(0), 2);
        Check.due("accept(1)", x.accept(1), 0);
        Check.due("he does not", x.accept(1), 2);
        x.serve(0, 0, 5);
        x.rise(0);
        Check.due("passed on to him", x.plate(1, 0), 5);
        x.refuse(0);
        x.die(0);
        x.die(1);
        Check.says("1 he is dead, the least");
        Check.due("refused, dead: refuse", x.refuse(0), 1);
        Check.due("refused, dead: accept", x.accept(0), 1);
        Check.due("not refused, dead: refuse", x.refuse(1), 1);
        Check.due("not refused, dead: accept", x.accept(1), 1);
        Check.due("now(2)", x.now(2), 1);
    }

    private static void whyNotDie() {
        Check.says("To DIE: 1 he is dead: he is, and his plate is PASSED on, if anything is on it");
        SecondHelpings x = Check.at("person a 4;person b 4;dish x 9;plate a x 3;dogs 1;");
        Check.due("nothing is on it", x.die(1), 0);
        Check.due("now(7)", x.now(7), 0);
        Check.due("now(3)", x.now(3), 0);
        Check.due("again", x.die(1), 1);
        Check.due("the last one", x.die(0), 0);
        Check.due("now(7)", x.now(7), 1);
        Check.due("now(3)", x.now(3), 1);
        Check.due("dish(0, 0)", x.dish(0, 0), 11);
        Check.due("now(1)", x.now(1), 3);
    }

    // ---- MEALS

    private static void hungerOfAMeal() {
        Check.says("each PERSON who lives has HUNGER more by as many parts as he ate fewer at it than he WANTS");
        SecondHelpings x = Check.at("person a 4;person b 0;person c 20;person d 3;dish x 9;plate a x 9;plate d x 3;");
        x.eat(0, 0, 4);
        x.eat(3, 0, 1);
        x.die(3);
        x.meals(1);
        Check.due("who ate all that he WANTS", x.person(0, 6), 0);
        Check.due("who WANTS 0", x.person(1, 6), 0);
        Check.due("who ate nothing", x.person(2, 6), 20);
        Check.due("who is dead", x.person(3, 6), 0);
        Check.says("It is the next MEAL, at which nobody has eaten");
        Check.due("person(0, 5)", x.person(0, 5), 0);
        Check.due("person(3, 5), a dead one", x.person(3, 5), 0);
        Check.due("person(0, 4)", x.person(0, 4), 4);
        x.eat(0, 0, 1);
        x.meals(1);
        Check.due("as he ate at that MEAL", x.person(0, 6), 3);
        x.die(2);
        x.meals(1);
        Check.due("what it was when he died", x.person(2, 6), 40);
        Check.due("now(6)", x.now(6), 47);
    }

    private static void whatSpoils() {
        Check.says("of each DISH that spoils each plate has N parts less (0 at least; they are lost)");
        for (int n = 1; n <= 9; n++) {
            SecondHelpings x = Check.at("person a 4;person b 4;dish x 50 spoils " + n + ";dish y 7;plate a x 5;plate b x 20;plate a y 5;");
            x.meals(1);
            Check.due("plate(0, 0)", x.plate(0, 0), Math.max(5 - n, 0));
            Check.due("plate(1, 0)", x.plate(1, 0), 20 - n);
            Check.due("a DISH that does not", x.plate(0, 1), 5);
            Check.due("in the dish", x.dish(0, 0), 50);
            Check.due("now(4)", x.now(4), Math.min(n, 5) + n);
            x.meals(1);
            Check.due("plate(0, 0)", x.plate(0, 0), Math.max(5 - 2 * n, 0));
            Check.due("plate(1, 0)", x.plate(1, 0), 20 - 2 * n);
            x.meals(60);
            Check.due("now(4)", x.now(4), 25);
            Check.due("person(0, 7)", x.person(0, 7), 5);
            Check.due("dish(0, 2)", x.dish(0, 2), 0);
        }
    }

    private static void twoHundredMeals() {
        Check.says("A MEAL (0 to 199; 200: all are over)");
        SecondHelpings x = Check.at("person a 4;dish x 9;plate a x 9;");
        Check.due("now(0)", x.now(0), 0);
        for (int i = 1; i <= 3; i++) {
            x.meals(60);
        }
        x.meals(19);
        Check.due("now(0)", x.now(0), 199);
        Check.due("one more", x.meals(2), 1);
        Check.due("now(0)", x.now(0), 200);
        Check.due("no more", x.meals(1), 0);
        Check.due("no more", x.drawn(1, 1), 0);
        Check.due("now(0)", x.now(0), 200);
        Check.due("person(0, 6)", x.person(0, 6), 800);
        Check.due("eat, which asks for no MEAL", x.eat(0, 0, 1), 0);
        Check.due("undo(): the act", x.undo(), 5);
        Check.due("undo(): the 200th MEAL", x.undo(), 4);
        Check.due("now(0)", x.now(0), 199);
    }

    // ---- what is asked

    private static void linesOfPersons() {
        Check.says("LINE of a PERSON: who would be HEIR; behind him who would be, if that one refused, too; and so on");
        SecondHelpings x = Check.at("person a 1;person b 1;person c 1;person d 1;person e 1;person f 1;person g 1;");
        for (int p = 0; p < 7; p++) {
            for (int k = 0; k < 9; k++) {
                Check.due("line(" + p + ", " + k + ")", x.line(p, k), k < 6 ? (p + k + 1) % 7 : -1);
            }
        }
        x.refuse(1);
        x.die(2);
        Check.due("line(0, 0)", x.line(0, 0), 3);
        Check.due("line(0, 3)", x.line(0, 3), 6);
        Check.due("line(0, 4)", x.line(0, 4), -1);
        Check.due("of one who refuses", x.line(1, 4), 0);
        Check.due("of a dead one", x.line(2, 4), 0);
        Check.due("none refuses by it", x.now(2), 2);
        SecondHelpings y = Check.at("person a 1;person b 1;person c 1 of a;person d 1;person e 1 of a;law child;");
        int[] due = {2, 4, 1, 3, -1};
        for (int k = 0; k < 5; k++) {
            Check.due("by law child", y.line(0, k), due[k]);
        }
        SecondHelpings z = Check.at(FOUR + LEAST);
        z.eat(0, 0, 1);
        z.eat(1, 0, 2);
        z.eat(2, 0, 1);
        int[] least = {0, 2, 1, -1};
        for (int k = 0; k < 4; k++) {
            Check.due("by law least", z.line(3, k), least[k]);
        }
    }

    private static void orderIs(SecondHelpings x, int wanted, String row) {
        String before = Check.all(x);
        Check.due("order()", x.order(), wanted);
        Check.due("its row", Check.row(x, false), row);
        Check.due("all stays", Check.all(x), before);
    }

    private static void whatAnOrderCounts() {
        Check.says("ORDER: each eats as much as is on his plate and he WANTS yet at this MEAL, then passes on what is left (if anything is)");
        SecondHelpings x = Check.at("person a 4;person b 4;dish x 9;plate a x 9;");
        orderIs(x, 0, "01");
        x.eat(0, 0, 3);
        orderIs(x, 0, "01");
        x.eat(0, 0, 1);
        orderIs(x, 0, "01");
        x.meals(1);
        // 5 are left: a eats 4, b 1; or b none, a 4
        orderIs(x, 3, "01");
        Check.says("all who live");
        x.die(0);
        orderIs(x, 0, "1");
        x.die(1);
        orderIs(x, 0, "");
        orderIs(new SecondHelpings(), 0, "");
        Check.says("the parts that they WANT yet in the end");
        orderIs(Check.at("person a 20;person b 20;person c 0;"), 40, "012");
        Check.says("DISH by DISH: the dogs have the first that are left");
        // b eats his x, so that the dogs have 1 y; a has 3 y and WANTS 4
        orderIs(Check.at("person a 4;person b 2;dish x 0;dish y 0;plate b x 2;plate b y 4;dogs 1;"), 1, "10");
        Check.says("once each, one behind the other");
        // b's go on to c, c's to a; c's have to come ahead of a
        orderIs(Check.at("person a 4;person b 2;person c 3;dish x 0;plate a x 1;plate c x 9;plate b x 3;"), 0, "120");
        // by law child a's 5 go on to c, c's to d, d's to a, who rose already: he WANTS no more, b does
        orderIs(Check.at("person a 1;person b 2;person c 1 of a;person d 1;dish x 0;plate a x 6;law child;"), 2, "0123");
    }

    private static void firstOfLikeOrders() {
        Check.says("of like ones the first: the least PERSON ahead");
        orderIs(Check.at("person a 0;person b 0;person c 0;person d 0;person e 0;person f 0;person g 0;"), 0, "0123456");
        orderIs(Check.at("person a 1;person b 1;person c 1;dish x 0;plate c x 1;"), 2, "012");
        orderIs(Check.at("person a 1;person b 1;person c 1;dish x 0;plate c x 2;"), 1, "120");
    }

    private static int eaters(SecondHelpings x, int... bytes) {
        Check.feed(x, bytes);
        return x.eaters();
    }

    private static void setsOfEaters() {
        Check.says("EATERS: sets of PERSONS (dead ones, too) whose plates have as many parts of it now in all");
        SecondHelpings x = Check.at("person a 1;person b 1;person c 1;dish x 9;dish y 9;plate a x 1;plate b x 2;plate c y 3;");
        int[] due = {2, 2, 2, 2, 0, 0};
        for (int parts = 0; parts < due.length; parts++) {
            Check.due("eaters of " + parts, eaters(x, 0, parts), due[parts]);
        }
        x.die(2);
        Check.due("a dead one, with none", eaters(x, 0, 3), 2);
        Check.due("plate(0, 1)", x.plate(0, 1), 3);
        Check.due("eaters of y", eaters(x, 1, 3), 4);
        Check.due("surely", x.surely(), 1);
        SecondHelpings y = Check.at("person a 1;person b 1;person c 1;person d 1;person e 1;person f 1;person g 1;dish x 9;");
        Check.due("nobody has any: all sets", eaters(y, 0, 0), 128);
        Check.due("surely", y.surely(), 0);
        SecondHelpings z = Check.at("person a 1;dish x 99;");
        for (int i = 0; i < 2; i++) {
            z.serve(0, 0, 40);
        }
        z.serve(0, 0, 19);
        Check.due("99", eaters(z, 0, 99), 1);
        Check.due("surely", z.surely(), 1);
        Check.due("255", eaters(z, 0, 255), 0);
    }

    private static void whomToAsk() {
        Check.says("ASK: the PERSON who is in as many of these sets as not, as nearly as may be (of like ones the first)");
        SecondHelpings x = Check.at("person a 1;person b 1;person c 1;person d 1;dish x 9;plate a x 4;plate c x 1;plate d x 1;");
        // with 5 parts: a and c, a and d, each with b or not
        Check.due("eaters", eaters(x, 0, 5), 4);
        Check.due("surely", x.surely(), 1);
        Check.due("b, c, d alike: the first", x.ask(), 1);
        Check.due("with 6: a, c, d, with b or not", eaters(x, 0, 6), 2);
        Check.due("ask", x.ask(), 1);
        SecondHelpings y = Check.at("person a 1;person b 1;dish x 9;plate a x 1;plate b x 1;");
        Check.due("one set", eaters(y, 0, 2), 1);
        Check.due("each in all: the first", y.ask(), 0);
        Check.due("one set, the empty one", eaters(y, 0, 0), 1);
        Check.due("each in none: the first", y.ask(), 0);
        // sets with 3: a b; a c d; b c: a 2, b 2, c 2, d 1 of 3
        SecondHelpings z = Check.at("person d 1;person c 1;person a 1;person b 1;dish x 9;plate a x 1;plate b x 2;plate c x 1;plate d x 1;");
        // sets with 2: b; d c; d a; c a: d 2 of 4
        Check.due("eaters", eaters(z, 0, 2), 4);
        Check.due("2 of 4", z.ask(), 0);
        // sets with 4: b d c; b d a; b c a: d 2, c 2, a 2, b 3 of 3
        Check.due("eaters", eaters(z, 0, 4), 3);
        Check.due("2 of 3", z.ask(), 0);
        Check.due("surely", z.surely(), 8);
        // sets with 5: all
        Check.due("eaters", eaters(z, 0, 5), 1);
        Check.due("ask", z.ask(), 0);
    }

    private static void sharesAre(SecondHelpings x, int set, int... due) {
        for (int p = 0; p < due.length; p++) {
            Check.due("share(0, " + set + ", " + p + ")", x.share(0, set, p), due[p]);
        }
    }

    private static void whatIsLeftOfShares() {
        Check.says("SHARE: (cut), what is left 1 by 1 to those with the greatest rest (of like ones the first), each once");
        sharesAre(Check.at("person a 1;person b 1;person c 1;dish x 9;"), 7, 3, 3, 3);
        sharesAre(Check.at("person a 1;person b 1;person c 1;dish x 10;"), 7, 4, 3, 3);
        sharesAre(Check.at("person a 1;person b 1;person c 1;dish x 11;"), 7, 4, 4, 3);
        sharesAre(Check.at("person a 1;person b 1;person c 1;dish x 2;"), 7, 1, 1, 0);
        sharesAre(Check.at("person a 1;person b 1;person c 1;dish x 0;"), 7, 0, 0, 0);
        // 5 by 1, 2, 4 of 7: 0 (5), 1 (3), 2 (6): c, then a
        sharesAre(Check.at("person a 1;person b 2;person c 4;dish x 5;"), 7, 1, 1, 3);
        // 99 by 20, 19, 20 of 59: 33 (33), 31 (52), 33 (33): b, then a
        sharesAre(Check.at("person a 20;person b 19;person c 20;dish x 99;"), 7, 34, 32, 33);
        Check.says("among some PERSONS");
        sharesAre(Check.at("person a 1;person b 1;person c 1;dish x 9;"), 5, 5, -1, 4);
        sharesAre(Check.at("person a 1;person b 1;person c 1;dish x 9;"), 2, -1, 9, -1);
        sharesAre(Check.at("person a 1;person b 1;person c 1;dish x 9;"), 0, -1, -1, -1);
        Check.says("nobody WANTS any: nothing");
        sharesAre(Check.at("person a 0;person b 0;person c 1;dish x 9;"), 3, 0, 0, -1);
        sharesAre(Check.at("person a 0;person b 0;person c 1;dish x 9;"), 7, 0, 0, 9);
        Check.says("its parts: those that are left in it, beyond 99 too");
        SecondHelpings x = Check.at("person a 3;person b 1;dish x 99;plate a x 40;");
        sharesAre(x, 3, 74, 25);
        x.refuse(1);
        x.rise(0);
        sharesAre(x, 3, 104, 35);
        x.die(0);
        sharesAre(x, 3, 104, 35);
    }

    private static int toWin(int parts, int[] known) {
        for (int take = 1; take <= 3 && take <= parts; take++) {
            int rest = parts - take;
            if (rest > 0 && known[rest] == 0) {
                return take;
            }
        }
        return 0;
    }

    private static void lastParts() {
        Check.says("LAST: who takes the last part loses: how many to take now to win (the least; 0: one can't, or there are none)");
        int[] known = new int[100];
        for (int parts = 0; parts < 100; parts++) {
            known[parts] = toWin(parts, known);
            Check.due("last of " + parts, Check.at("dish x " + parts + ";").last(0), known[parts]);
        }
        Check.due("one part: he can't", known[1], 0);
        Check.due("two parts", known[2], 1);
    }

    private static void seatsAre(SecondHelpings x, int pairs, String row) {
        Check.due("seats()", x.seats(), pairs);
        Check.due("its row", Check.row(x, true), row);
    }

    private static void rowsOfSeats() {
        Check.says("SEATS: all who live in a row, as many as may be have their own child directly behind them");
        seatsAre(new SecondHelpings(), 0, "");
        seatsAre(Check.at("person a 1;"), 0, "0");
        seatsAre(Check.at("person a 1;person b 1;person c 1;"), 0, "012");
        seatsAre(Check.at("person a 1;person b 1 of a;person c 1 of b;person d 1 of c;person e 1 of d;person f 1 of e;person g 1 of f;"), 6, "0123456");
        seatsAre(Check.at("person a 1;person b 1 of a;person c 1 of a;person d 1 of a;person e 1 of a;person f 1 of a;person g 1 of a;"), 1, "0123456");
        Check.says("of like ones the first: place by place the least PERSON");
        // c's child d, a's child e: a e, c d; b anywhere
        seatsAre(Check.at("person a 1;person b 1;person c 1;person d 1 of c;person e 1 of a;"), 2, "04123");
        seatsAre(Check.at("person a 1;person b 1 of a;person c 1 of a;person d 1 of b;"), 2, "0132");
        SecondHelpings x = Check.at("person a 1;person b 1 of a;person c 1 of a;person d 1 of c;");
        seatsAre(x, 2, "0123");
        Check.says("all who live");
        x.die(2);
        seatsAre(x, 1, "013");
        x.die(0);
        seatsAre(x, 0, "13");
        x.die(1);
        x.die(3);
        seatsAre(x, 0, "");
        // a parent behind his child has no child behind him; no row is a ring
        seatsAre(Check.at("person a 1;person b 1 of a;"), 1, "01");
    }

    private static int left(SecondHelpings x, int p, int... bytes) {
        Check.feed(x, bytes);
        return x.left(p);
    }

    private static void whoDieOneBehindTheOther() {
        Check.says("LEFT: they die one behind the other (who is dead already: nothing), nothing else is done");
        SecondHelpings x = Check.at(FOUR + "plate a x 4;plate b y 3;dogs 1;");
        String before = Check.all(x);
        Check.due("a dies", left(x, 1, 0), 3 + 3);
        Check.due("a, then b: the dogs twice", left(x, 2, 0, 1), 5);
        Check.due("b, then a", left(x, 2, 1, 0), 2 + 3);
        Check.due("a twice", left(x, 1, 0, 0), 6);
        Check.due("a seven times", left(x, 1, 0, 0, 0, 0, 0, 0, 0), 6);
        Check.due("all: back into the dishes", left(x, 3, 0, 1, 2, 3), 0);
        Check.due("who died", left(x, 0, 0), 0);
        Check.due("one who does not die", left(x, 3, 2), 0);
        Check.due("all stays", Check.all(x), before);
        x.die(0);
        Check.due("dead already", left(x, 1, 0), 6);
        Check.due("dead already, another one", left(x, 2, 0, 1), 5);
    }

    private static void stepsOfKin() {
        Check.says("KIN: the fewest steps from a PERSON to another one, from child to parent or from parent to child");
        SecondHelpings x = Check.at("person a 1;person b 1 of a;person c 1 of b;person d 1 of c;person e 1 of d;person f 1 of e;person g 1 of f;");
        for (int p = 0; p < 7; p++) {
            for (int q = 0; q < 7; q++) {
                Check.due("kin(" + p + ", " + q + ")", x.kin(p, q), Math.abs(p - q));
            }
        }
        SecondHelpings y = Check.at("person a 1;person b 1 of a;person c 1 of a;person d 1 of b;person e 1 of c;person f 1;person g 1 of f;");
        Check.due("by the parents' parent", y.kin(3, 4), 4);
        Check.due("siblings", y.kin(1, 2), 2);
        Check.due("no kin", y.kin(0, 5), -1);
        Check.due("no kin", y.kin(6, 3), -1);
        Check.due("himself", y.kin(5, 5), 0);
        y.die(0);
        Check.due("by a dead one", y.kin(3, 4), 4);
    }

    private static void textsOfWills() {
        Check.says("WILL: ' leaves nothing', if there are none, ' to nobody', if there is no HEIR");
        SecondHelpings x = Check.at("person a 1;person bcdefgh 1;dish x 99;dish y 99;");
        Check.due("none, an HEIR", Check.willText(x, 0), "a leaves nothing");
        x.serve(0, 0, 9);
        Check.due("9", Check.willText(x, 0), "a leaves 9 to bcdefgh");
        x.serve(0, 0, 1);
        Check.due("10", Check.willText(x, 0), "a leaves 10 to bcdefgh");
        x.serve(0, 0, 40);
        x.serve(0, 1, 40);
        x.serve(0, 1, 9);
        Check.due("99", Check.willText(x, 0), "a leaves 99 to bcdefgh");
        x.serve(0, 1, 1);
        Check.due("100, of all DISHES", Check.willText(x, 0), "a leaves 100 to bcdefgh");
        x.refuse(1);
        Check.due("no HEIR", Check.willText(x, 0), "a leaves 100 to nobody");
        Check.due("none", Check.willText(x, 1), "bcdefgh leaves nothing");
        x.die(0);
        Check.due("none, no HEIR", Check.willText(x, 1), "bcdefgh leaves nothing");
        Check.due("of a dead one", Check.willText(x, 0), "a leaves nothing");
        // the most that can be on one plate, of six DISHES
        StringBuilder text = new StringBuilder("person abcdefg 1;person bcdefgh 1;");
        for (int d = 0; d < 6; d++) {
            text.append("dish ").append("uvwxyz".charAt(d)).append(" 99;plate abcdefg ").append("uvwxyz".charAt(d)).append(" 40;");
            text.append("plate bcdefgh ").append("uvwxyz".charAt(d)).append(" 40;");
        }
        SecondHelpings y = Check.at(text.toString());
        for (int d = 0; d < 6; d++) {
            y.serve(0, d, 40);
            y.serve(0, d, 40);
            y.serve(0, d, 19);
        }
        y.rise(1);
        Check.due("4 digits", Check.willText(y, 0), "abcdefg leaves 1074 to bcdefgh");
    }

    // ---- DRAWN

    private static int behind(int seed) {
        return seed * 1103515245 + 12345;
    }

    /** What one PERSON does by seeds that give each draw, found here. */
    private static void eachDraw() {
        Check.says("a draw of 6: 0: he rises, if he can; 1: a draw of 4: 0: he dies (1 to 3: nothing); 2 to 5: he eats");
        int[] seen = new int[10];
        for (int seed = -60; seed < 60; seed++) {
            int first = behind(seed);
            int second = behind(first);
            int six = (first >>> 8) % 6;
            int four = (second >>> 8) % 4;
            SecondHelpings x = Check.at("person a 3;dish x 0;dish y 0;plate a x 2;plate a y 9;");
            Check.due("drawn(1, " + seed + ")", x.drawn(1, seed), 1);
            boolean dies = six == 1 && four == 0;
            seen[six == 1 ? 6 + four : six]++;
            Check.due("dead", x.person(0, 2), dies ? 1 : 0);
            Check.due("passed", x.now(7), six == 0 || dies ? 1 : 0);
            Check.due("eaten", x.person(0, 4), six >= 2 ? 3 : 0);
            Check.due("x", x.plate(0, 0), six == 1 && !dies ? 2 : 0);
            Check.due("y", x.plate(0, 1), six >= 2 ? 8 : six == 1 && !dies ? 9 : 0);
            Check.due("HUNGER", x.person(0, 6), six >= 2 || dies ? 0 : 3);
            Check.due("then the MEAL", x.now(0), 1);
            // with nothing on his plate he can't rise, nor eat, but die
            SecondHelpings y = Check.at("person a 3;");
            Check.due("drawn(1, " + seed + ")", y.drawn(1, seed), 1);
            Check.due("now(7)", y.now(7), 0);
            Check.due("dead", y.person(0, 2), dies ? 1 : 0);
        }
        for (int i = 0; i < 10; i++) {
            Check.due("draw " + i + " was seen", seen[i] > 0, i != 1);
        }
    }

    private static void whoLivesThen() {
        Check.says("PERSON by PERSON who lives then");
        int found = 0;
        for (int seed = 0; seed < 200; seed++) {
            int first = behind(seed);
            int second = behind(first);
            int third = behind(second);
            if ((first >>> 8) % 6 == 1 && (second >>> 8) % 4 == 0 && (third >>> 8) % 6 >= 2) {
                // a dies, b has a's parts and eats of them at once
                found++;
                SecondHelpings x = Check.at("person a 3;person b 4;dish x 0;plate a x 9;");
                x.drawn(1, seed);
                Check.due("b ate", x.person(1, 4), 4);
                Check.due("dead", x.now(1), 1);
                // a dead one draws nothing: the next draw is b's
                SecondHelpings y = Check.at("person z 1;person a 3;person b 4;dish x 0;plate a x 9;");
                y.die(0);
                y.drawn(1, seed);
                Check.due("b ate", y.person(2, 4), 4);
            }
        }
        Check.due("seeds were found", found > 0, true);
        SecondHelpings z = Check.at("person a 3;dish x 9;plate a x 3;");
        z.die(0);
        Check.due("nobody lives: MEALS go by", z.drawn(60, 7), 60);
        Check.due("now(6)", z.now(6), 0);
    }

    private static void aNewTable() {
        Check.says("A new TABLE: MEAL 0, all live, nobody refuses, ate, is hungry, no SENTENCE");
        String text = "person a 3;person b 3;dish x 9 spoils 1;plate a x 9;dogs 1;";
        SecondHelpings x = Check.at(text);
        String fresh = Check.all(x);
        x.eat(0, 0, 1);
        x.meals(2);
        x.rise(0);
        x.refuse(0);
        x.die(1);
        Check.due("sentence", Check.sentence(x, "dead"), 1);
        Check.due("the same TABLE again", Check.table(x, text), 5);
        Check.due("all", Check.all(x), fresh);
        Check.due("said(-1)", x.said(-1), -1);
        Check.due("said(0)", x.said(0), -1);
        Check.due("undo()", x.undo(), -1);
        Check.says("A call that throws changes nothing");
        x.eat(0, 0, 2);
        Check.feed(x, "abc");
        String before = Check.all(x);
        Check.due("person(2, 0)", Check.noSuchPerson(x, 2, 0), true);
        Check.due("person(0, 9)", Check.noSuchPerson(x, 0, 9), true);
        Check.due("all", Check.all(x), before);
        Check.due("count(4)", x.count(4), 3);
        Check.due("undo()", x.undo(), 0);
        Check.due("all", Check.all(x), fresh);
    }
}
