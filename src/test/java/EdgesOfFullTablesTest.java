/** '7 PERSONS, 6 DISHES at most': the seventh PERSON and the sixth DISH are like all others, in every call. */
public final class EdgesOfFullTablesTest {
    private static final String[] NAMES = {"ann", "bob", "cid", "dan", "eve", "fay", "abcdefg"};
    private static final String[] DISHES = {"ham", "pea", "pie", "egg", "jam", "tuvwxyz"};
    private static final int LAST = 6;
    private static final int SIXTH = 5;

    public static void main(String[] args) {
        actsOfTheSeventh();
        undoneForTheSeventh();
        judgedForTheSeventh();
        imagesOfTheSeventh();
        askedOfTheSeventh();
        saidOfTheSeventh();
        drawnForTheSeventh();
        toldAnew();
        askTheSeventh();
        manyPersonsOneDish();
        onePersonManyDishes();
        noPersonsOrNoDishes();
        Check.finish("EdgesOfFullTablesTest");
    }

    /** All seven and all six; the seventh is the sixth one's child, and has 8 of the sixth DISH, which spoils by 9. */
    private static String full(String law) {
        StringBuilder text = new StringBuilder();
        for (int p = 0; p < 7; p++) {
            text.append("person ").append(NAMES[p]).append(' ').append(p + 1);
            text.append(p > 0 ? " of " + NAMES[p - 1] + ";" : ";");
        }
        for (int d = 0; d < 6; d++) {
            text.append("dish ").append(DISHES[d]).append(' ').append(20 + d);
            text.append(d == SIXTH ? " spoils 9;" : ";");
        }
        return text + "plate ann ham 3;plate abcdefg ham 4;plate abcdefg tuvwxyz 8;" + law;
    }

    private static void actsOfTheSeventh() {
        Check.says("7 PERSONS, 6 DISHES: acts");
        SecondHelpings x = Check.at(full(""));
        Check.due("serve(6, 5, 25)", x.serve(LAST, SIXTH, 25), 0);
        Check.due("dish(5, 0)", x.dish(SIXTH, 0), 0);
        Check.due("serve(6, 5, 1)", x.serve(LAST, SIXTH, 1), 2);
        Check.due("plate(6, 5)", x.plate(LAST, SIXTH), 33);
        Check.due("person(6, 7)", x.person(LAST, 7), 37);
        Check.due("eat(6, 5, 8)", x.eat(LAST, SIXTH, 8), 3);
        Check.due("eat(6, 5, 7)", x.eat(LAST, SIXTH, 7), 0);
        Check.due("person(6, 4)", x.person(LAST, 4), 7);
        Check.due("person(6, 5)", x.person(LAST, 5), 7);
        Check.due("now(5)", x.now(5), 7);
        Check.due("refuse(6)", x.refuse(LAST), 0);
        Check.due("now(2)", x.now(2), 64);
        Check.due("heir(5)", x.heir(5), 0);
        Check.due("accept(6)", x.accept(LAST), 0);
        Check.due("heir(5)", x.heir(5), LAST);
        Check.due("meals(2)", x.meals(2), 2);
        Check.due("person(6, 6)", x.person(LAST, 6), 7);
        Check.due("plate(6, 5)", x.plate(LAST, SIXTH), 8);
        Check.due("now(4)", x.now(4), 18);
        Check.due("now(6)", x.now(6), 2 * 21 + 7);
        Check.due("rise(6)", x.rise(LAST), 0);
        Check.due("plate(0, 5)", x.plate(0, SIXTH), 8);
        Check.due("plate(0, 0)", x.plate(0, 0), 7);
        Check.due("dish(5, 2)", x.dish(SIXTH, 2), 8);
        Check.due("die(6)", x.die(LAST), 0);
        Check.due("now(1)", x.now(1), 64);
        Check.due("person(5, 8)", x.person(5, 8), 64);
    }

    private static void undoneForTheSeventh() {
        Check.says("7 PERSONS, 6 DISHES: acts undone");
        SecondHelpings x = Check.at(full("dogs 2;"));
        String[] before = new String[8];
        for (int i = 0; i < 8; i++) {
            before[i] = Check.all(x);
            switch (i) {
                case 0 -> Check.due("eat", x.eat(LAST, SIXTH, 3), 0);
                case 1 -> Check.due("serve", x.serve(LAST, SIXTH, 4), 0);
                case 2 -> Check.due("meals", x.meals(1), 1);
                case 3 -> Check.due("refuse", x.refuse(LAST), 0);
                case 4 -> Check.due("serve", x.serve(LAST, 0, 4), 0);
                case 5 -> Check.due("rise", x.rise(LAST), 0);
                case 6 -> Check.due("book", Check.book(x, "abcdefg served tuvwxyz 5;abcdefg eats tuvwxyz 2;meal 1;", 1), -1);
                default -> Check.due("die", x.die(LAST), 0);
            }
        }
        for (int i = 7; i >= 0; i--) {
            Check.due("undo()", x.undo(), i);
            Check.due("all", Check.all(x), before[i]);
        }
    }

    private static void judgedForTheSeventh() {
        Check.says("7 PERSONS, 6 DISHES: a BOOK");
        SecondHelpings x = Check.at(full(""));
        x.eat(LAST, SIXTH, 2);
        Check.due("eats what he WANTS yet", Check.book(x, "abcdefg eats tuvwxyz 5;", 0), -1);
        Check.due("not more", Check.book(x, "abcdefg eats tuvwxyz 6;", 0), 0);
        Check.due("told(0)", x.told(0), 3);
        Check.due("not more than there are", Check.book(x, "abcdefg eats tuvwxyz 7;", 0), 0);
        Check.due("told(0)", x.told(0), 2);
        Check.says("each LINE has its own PERSON, DISH and N");
        Check.due("lived", Check.book(x, "ann eats ham 1;abcdefg eats tuvwxyz 3;ann served egg 2;abcdefg served pie 4;meal 2;abcdefg dies;fay served jam 1;", 1), -1);
        Check.due("told(3)", x.told(3), 64);
        int[][] due = {{2 + 4, 0, 4, 2, 0, 0}, {0, 0, 0, 0, 0, 0}, {0, 0, 0, 0, 0, 0}, {0, 0, 0, 0, 0, 0}, {0, 0, 0, 0, 0, 0}, {0, 0, 0, 0, 1, 0}, {0, 0, 0, 0, 0, 0}};
        for (int p = 0; p < 7; p++) {
            for (int d = 0; d < 6; d++) {
                Check.due("plate(" + p + ", " + d + ")", x.plate(p, d), due[p][d]);
            }
        }
        Check.due("person(6, 4)", x.person(LAST, 4), 5);
        Check.due("person(6, 6)", x.person(LAST, 6), 2 + 7);
        Check.due("person(0, 4)", x.person(0, 4), 1);
        Check.due("now(0)", x.now(0), 2);
    }

    private static void imagesOfTheSeventh() {
        Check.says("7 PERSONS, 6 DISHES: images");
        SecondHelpings x = Check.at(full("law least;dogs 9;"));
        x.eat(LAST, SIXTH, 2);
        x.meals(1);
        x.serve(LAST, SIXTH, 9);
        x.eat(LAST, SIXTH, 1);
        Check.due("sentence", Check.sentence(x, "has tuvwxyz and number=6"), 2);
        String kept = Check.all(x);
        x.image(1);
        Check.table(x, "person z 1;");
        x.meals(3);
        Check.due("restore(1)", x.restore(1), true);
        Check.due("all", Check.all(x), kept);
        Check.due("its NAME", Check.willText(x, LAST), "abcdefg leaves 12 to ann");
        Check.due("the sixth DISH's NAME", Check.book(x, "abcdefg eats tuvwxyz 1;", 0), -1);
        Check.due("said(0)", x.said(0), LAST);
        Check.says("40: the SENTENCE that is, not one with a FAULT");
        Check.due("a FAULT", Check.sentence(x, "dead or dead or dead or"), -24);
        x.image(0);
        Check.due("another one", Check.sentence(x, "dead"), 1);
        Check.due("said(-1)", x.said(-1), 0);
        Check.due("restore(0)", x.restore(0), true);
        Check.due("said(-1)", x.said(-1), 1);
        Check.due("said(0)", x.said(0), LAST);
    }

    private static int eaters(SecondHelpings x, int d, int parts) {
        Check.feed(x, d, parts);
        return x.eaters();
    }

    private static int left(SecondHelpings x, int p, int... bytes) {
        Check.feed(x, bytes);
        return x.left(p);
    }

    private static void askedOfTheSeventh() {
        Check.says("7 PERSONS, 6 DISHES: what is asked");
        SecondHelpings x = Check.at(full(""));
        Check.due("heir(6)", x.heir(LAST), 0);
        Check.due("line(6, 5)", x.line(LAST, 5), 5);
        Check.due("line(0, 5)", x.line(0, 5), LAST);
        Check.due("8 of the sixth", eaters(x, SIXTH, 8), 64);
        Check.due("surely()", x.surely(), 64);
        Check.due("ask()", x.ask(), 0);
        Check.due("7 of the first", eaters(x, 0, 7), 32);
        Check.due("surely()", x.surely(), 65);
        Check.due("ask()", x.ask(), 1);
        // 25 by 6 and 7 of 13: 11 (7), 13 (6)
        Check.due("share(5, 96, 5)", x.share(SIXTH, 96, 5), 12);
        Check.due("share(5, 96, 6)", x.share(SIXTH, 96, LAST), 13);
        Check.due("share(5, 128, 6)", x.share(SIXTH, 128, LAST), -1);
        Check.due("last(5)", x.last(SIXTH), 0);
        Check.due("last(4)", x.last(4), 3);
        Check.due("seats()", x.seats(), 6);
        Check.due("its row", Check.row(x, true), "0123456");
        Check.due("seatAt(6)", x.seatAt(LAST), LAST);
        Check.due("kin(0, 6)", x.kin(0, LAST), 6);
        Check.due("hungriest()", x.hungriest(), 0);
        Check.due("all but the seventh die", left(x, LAST, 0, 1, 2, 3, 4, 5), 15);
        Check.due("all seven die", left(x, LAST, 0, 1, 2, 3, 4, 5, 6), 0);
        Check.due("the seventh dies", left(x, 0, 6), 15);
        x.meals(1);
        Check.due("hungriest()", x.hungriest(), LAST);
        // only ham is left: ann 3, abcdefg 4, who WANT 1 and 7; ann's 2 go on to bob
        Check.due("order()", x.order(), 28 - 7);
        Check.due("its row", Check.row(x, false), "0123456");
        Check.says("WILL: the HEIR is who is HEIR now");
        x.die(0);
        Check.due("the dead are not", Check.willText(x, LAST), "abcdefg leaves 4 to bob");
        x.refuse(1);
        Check.due("nor who refuses", Check.willText(x, LAST), "abcdefg leaves 4 to cid");
        SecondHelpings y = Check.at(full("law least;"));
        y.eat(0, 0, 1);
        Check.due("who ate least", Check.willText(y, LAST), "abcdefg leaves 12 to bob");
        y.serve(1, 0, 1);
        y.eat(1, 0, 1);
        Check.due("who ate least", Check.willText(y, LAST), "abcdefg leaves 12 to cid");
        Check.says("ORDER of seven");
        // abcdefg eats 3 yet, ann 1, bob 2, cid 3, dan the last 2 of 11: each behind the other
        SecondHelpings z = Check.at(full(""));
        z.eat(LAST, 0, 4);
        Check.due("order()", z.order(), 28 - 4 - 11);
        Check.due("its row", Check.row(z, false), "4560123");
    }

    private static void saidOfTheSeventh() {
        Check.says("7 PERSONS, 6 DISHES: a SENTENCE");
        SecondHelpings x = Check.at(full(""));
        x.eat(LAST, SIXTH, 5);
        x.serve(2, 0, 2);
        x.serve(3, 0, 3);
        x.eat(3, 0, 2);
        String[] texts = {"number=6", "of fay", "has tuvwxyz", "wants=7", "eaten=5", "eaten=2", "eaten=7", "eaten=0", "eaten<5", "eaten>2",
            "not clean", "number>5 and clean"};
        int[] bits = {64, 64, 64, 64, 64, 8, 0, 55, 63, 64, 77, 0};
        for (int i = 0; i < texts.length; i++) {
            Check.sentence(x, texts[i]);
            Check.due("said of " + texts[i], Check.saidBits(x), bits[i]);
        }
        x.meals(1);
        x.refuse(LAST);
        Check.sentence(x, "refused and hunger=2 and eaten=5");
        Check.due("said", Check.saidBits(x), 64);
        Check.due("said(0)", x.said(0), LAST);
        x.die(LAST);
        Check.sentence(x, "dead and clean");
        Check.due("said", Check.saidBits(x), 64);
        Check.sentence(x, "not dead or dead");
        Check.due("all seven", x.said(-1), 7);
        Check.due("said(6)", x.said(6), LAST);
        Check.due("said(7)", x.said(7), -1);
    }

    private static void drawnForTheSeventh() {
        Check.says("7 PERSONS, 6 DISHES: MEALS by draws");
        int lived = 0;
        int sum = 0;
        for (int seed = 100; seed < 130; seed++) {
            SecondHelpings x = Check.at(full(""));
            x.drawn(10, seed);
            lived += 1 - x.person(LAST, 2);
            sum += x.person(LAST, 4);
        }
        SecondHelpings y = Check.at(full(""));
        Check.due("odds", y.odds(LAST, 30, 100), lived);
        Check.due("some die, some eat", lived < 30 && sum > 0, true);
    }

    private static void toldAnew() {
        Check.says("A new TABLE, as full as the one ahead");
        SecondHelpings x = Check.at(full("law least;dogs 4;"));
        String fresh = Check.all(x);
        x.eat(LAST, SIXTH, 3);
        x.refuse(LAST);
        x.meals(1);
        x.rise(LAST);
        x.die(LAST);
        Check.due("with a FAULT", Check.table(x, full("law least;dogs 4;") + "?"), -1 - full("law least;dogs 4;").length());
        Check.due("person(6, 4)", x.person(LAST, 4), 3);
        for (int i = 0; i < 3; i++) {
            Check.due("the same TABLE again", Check.table(x, full("law least;dogs 4;")), 18);
            Check.due("all", Check.all(x), fresh);
        }
    }

    private static void askTheSeventh() {
        Check.says("ASK: the PERSON who is in as many of these sets as not: the seventh");
        SecondHelpings x = Check.at("person a 1;person b 1;person c 1;person d 1;person e 1;person f 1;person g 1;dish x 9;"
                + "plate a x 1;plate b x 1;plate c x 1;plate d x 1;plate e x 1;plate f x 1;");
        for (int i = 0; i < 3; i++) {
            Check.due("all six, with the seventh or not", eaters(x, 0, 6), 2);
            Check.due("surely()", x.surely(), 63);
            Check.due("ask()", x.ask(), LAST);
        }
    }

    private static void manyPersonsOneDish() {
        Check.says("more PERSONS than DISHES");
        SecondHelpings x = Check.at("person a 3;person b 3;person c 3;person d 3;person e 3;person f 3;person g 3;dish x 9 spoils 1;plate g x 9;");
        Check.due("eat(6, 0, 2)", x.eat(LAST, 0, 2), 0);
        Check.due("now(5)", x.now(5), 2);
        x.meals(1);
        Check.due("now(4)", x.now(4), 1);
        Check.due("now(6)", x.now(6), 19);
        Check.due("plate(6, 0)", x.plate(LAST, 0), 6);
        Check.due("dish(0, 2)", x.dish(0, 2), 6);
        Check.due("plate(0, 1)", x.plate(0, 1), -1);
        Check.due("order()", x.order(), 21 - 6);
        // a has g's three behind him
        Check.due("its row", Check.row(x, false), "1234560");
        x.rise(LAST);
        Check.due("plate(0, 0)", x.plate(0, 0), 6);
    }

    private static void onePersonManyDishes() {
        Check.says("more DISHES than PERSONS");
        SecondHelpings x = Check.at("person a 3;dish r 1;dish s 1;dish t 1;dish u 1;dish v 1 spoils 1;dish w 1 spoils 3;plate a v 5;plate a w 5;dogs 1;");
        x.meals(1);
        Check.due("plate(0, 4)", x.plate(0, 4), 4);
        Check.due("plate(0, 5)", x.plate(0, SIXTH), 2);
        Check.due("now(4)", x.now(4), 4);
        Check.due("order()", x.order(), 0);
        Check.due("rise(0)", x.rise(0), 0);
        Check.due("now(3)", x.now(3), 1);
        Check.due("dish(4, 0)", x.dish(4, 0), 1 + 3);
        Check.due("dish(5, 0)", x.dish(SIXTH, 0), 1 + 2);
        Check.due("share(5, 1, 0)", x.share(SIXTH, 1, 0), 3);
        Check.due("eaters", eaters(x, SIXTH, 0), 2);
    }

    private static void noPersonsOrNoDishes() {
        Check.says("no PERSONS, or no DISHES");
        SecondHelpings x = Check.at("dish r 5 spoils 1;dogs 3;");
        Check.due("meals(2)", x.meals(2), 2);
        Check.due("now(4)", x.now(4), 0);
        Check.due("dish(0, 0)", x.dish(0, 0), 5);
        Check.due("dish(0, 2)", x.dish(0, 2), 0);
        Check.due("last(0)", x.last(0), 0);
        Check.due("seats()", x.seats(), 0);
        Check.due("share(0, 0, 0)", x.share(0, 0, 0), -1);
        SecondHelpings y = Check.at("person a 3;person b 2;dogs 3;law child;");
        Check.due("rise(0)", y.rise(0), 2);
        Check.due("die(0)", y.die(0), 0);
        Check.due("now(7)", y.now(7), 0);
        Check.due("order()", y.order(), 2);
        Check.due("drawn(60, 3)", y.drawn(60, 3), 60);
        Check.due("now(5)", y.now(5), 0);
        Check.due("eaters", eaters(y, 0, 0), -1);
        Check.due("will", Check.willText(y, 1), "b leaves nothing");
    }
}
