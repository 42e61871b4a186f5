/** Promises 36 and 37: a BOOK judged or lived, and what is told of it. */
public final class BookTest {
    private static final String TABLE = "person ann 6;person bob 3 of ann;person cid 5 of ann;"
            + "dish ham 50;dish pea 7 spoils 3;plate ann ham 5;plate ann pea 4;plate bob pea 2;dogs 2;";

    public static void main(String[] args) {
        livedAndJudged();
        eachAct();
        wrongMeals();
        faults();
        tooManyLines();
        tooLong();
        otherLives();
        Check.finish("BookTest");
    }

    private static void toldIs(SecondHelpings x, int why, int good, int meal, int dead) {
        Check.due("told(0)", x.told(0), why);
        Check.due("told(1)", x.told(1), good);
        Check.due("told(2)", x.told(2), meal);
        Check.due("told(3)", x.told(3), dead);
        Check.due("told(4)", x.told(4), -1);
        Check.due("told(-1)", x.told(-1), -1);
    }

    private static void livedAndJudged() {
        SecondHelpings x = Check.at(TABLE);
        for (int what = -1; what < 5; what++) {
            Check.due("told, ahead of any", x.told(what), -1);
        }
        String text = "ann eats ham 5;\nbob served ham 9; ann rises; cid refuses;meal 2;cid accepts;bob dies;ann refuses;";
        SecondHelpings y = Check.at(TABLE);
        y.eat(0, 0, 5);
        y.serve(1, 0, 9);
        y.rise(0);
        y.refuse(2);
        y.meals(2);
        y.accept(2);
        y.die(1);
        y.refuse(0);
        String before = Check.all(x);
        Check.due("judged", Check.book(x, text, 0), -1);
        toldIs(x, 0, 8, 2, 2);
        Check.due("all stays", Check.all(x), before);
        Check.due("undo()", x.undo(), -1);
        Check.due("lived", Check.book(x, text, 1), -1);
        toldIs(x, 0, 8, 2, 2);
        Check.due("all", Check.all(x), Check.all(y));
        Check.due("again", Check.book(x, text, 1), 0);
        toldIs(x, 2, 0, 2, 2);
        Check.due("all", Check.all(x), Check.all(y));
        // lived as far as it is not WRONG; the LINES behind are not
        Check.due("lived", Check.book(x, "cid dies;meal 1;cid rises;ann dies;", 1), 2);
        toldIs(x, 21, 2, 3, 6);
        Check.due("now(0)", x.now(0), 3);
        Check.due("now(1)", x.now(1), 6);
        Check.due("judged", Check.book(x, "ann dies;ann dies;", 0), 1);
        toldIs(x, 51, 1, 3, 7);
        Check.due("now(1)", x.now(1), 6);
        Check.due("empty", Check.book(x, "", 1), -1);
        toldIs(x, 0, 0, 3, 6);
        x.die(0);
        toldIs(x, 0, 0, 3, 6);
        // a FAULT leaves what was told
        Check.due("a FAULT", Check.book(x, "meal 0;", 1), -7);
        Check.due("book(7)", x.book(7), -1000);
        toldIs(x, 0, 0, 3, 6);
    }

    private static void wrong(String text, int line, int why) {
        SecondHelpings x = Check.at(TABLE);
        Check.due("book of " + text, Check.book(x, text, 0), line);
        Check.due("told(0) of " + text, x.told(0), why);
        Check.due("told(1) of " + text, x.told(1), line);
        Check.due("fault()", x.fault(), 0);
    }

    private static void eachAct() {
        wrong("ann dies;ann eats ham 1;", 1, 1);
        wrong("ann eats ham 6;", 0, 2);
        wrong("ann eats ham 4;ann eats pea 3;", 1, 3);
        wrong("bob dies;bob served ham 1;", 1, 11);
        wrong("bob served pea 8;", 0, 12);
        wrong("bob dies;bob rises;", 1, 21);
        wrong("bob rises;bob rises;", 1, 22);
        wrong("bob dies;bob refuses;", 1, 31);
        wrong("bob refuses;bob refuses;", 1, 32);
        wrong("bob refuses;bob dies;bob accepts;", 2, 41);
        wrong("bob accepts;", 0, 42);
        wrong("meal 1;cid dies;cid dies;", 2, 51);
    }

    private static void wrongMeals() {
        SecondHelpings x = Check.at(TABLE);
        Check.due("book", Check.book(x, "meal 60;meal 60;meal 60;meal 20;", 0), -1);
        toldIs(x, 0, 4, 200, 0);
        Check.due("book", Check.book(x, "meal 60;meal 60;meal 60;meal 21;", 1), 3);
        toldIs(x, 61, 3, 180, 0);
        Check.due("none of them went", x.now(0), 180);
        Check.due("book", Check.book(x, "meal 20;", 1), -1);
        Check.due("book", Check.book(x, "meal 1;", 1), 0);
        toldIs(x, 61, 0, 200, 0);
    }

    private static void faulty(String text, int kind, int place) {
        SecondHelpings x = Check.at(TABLE);
        String before = Check.all(x);
        Check.due("book of " + text, Check.book(x, text, 1), -2 - place);
        Check.due("fault of " + text, x.fault(), kind);
        Check.due("told(0)", x.told(0), -1);
        Check.due("count(4)", x.count(4), 0);
        Check.due("all stays", Check.all(x), before);
        Check.due("undo()", x.undo(), -1);
    }

    private static void faults() {
        faulty(";", 1, 0);
        faulty("person ann;", 1, 0);
        faulty("eats ham 1;", 1, 0);
        faulty("5;", 1, 0);
        faulty("ann", 1, 3);
        faulty("ann;", 1, 3);
        faulty("ann bob;", 1, 4);
        faulty("ann meal 1;", 1, 4);
        faulty("ann dead;", 1, 4);
        faulty("ann eats 3;", 1, 9);
        faulty("ann eats of 3;", 1, 9);
        faulty("ann eats ham;", 1, 12);
        faulty("ann eats ham ham;", 1, 13);
        faulty("ann eats ham 3 4;", 1, 15);
        faulty("ann eats ham 3", 1, 14);
        faulty("ann rises 3;", 1, 10);
        faulty("meal;", 1, 4);
        faulty("meal one;", 1, 5);
        faulty("meal 1;meal 2 ", 1, 14);
        faulty("meal 1000;", 1, 5);
        faulty("meal 0;", 2, 5);
        faulty("meal 61;", 2, 5);
        faulty("ann eats ham 0;", 2, 13);
        faulty("ann eats ham 21;", 2, 13);
        faulty("ann served ham 0;", 2, 15);
        faulty("ann served ham 41;", 2, 15);
        faulty("zoe rises;", 3, 0);
        faulty("ham rises;", 3, 0);
        faulty("ann eats bob 1;", 3, 9);
        faulty("ann eats fish 1;", 3, 9);
        faulty("ann served ann 1;", 3, 11);
        faulty("meal 1;ann rises;zoe", 3, 17);
        // a WRONG LINE ahead of it is no FAULT
        faulty("ann accepts;meal", 1, 16);
        SecondHelpings x = Check.at(TABLE);
        Check.due("1 to 20", Check.book(x, "ann eats ham 20;", 0), 0);
        Check.due("1 to 40", Check.book(x, "ann served ham 40;meal 60;meal 1;", 0), -1);
    }

    private static void tooManyLines() {
        String forty = "meal 1;".repeat(40);
        SecondHelpings x = Check.at(TABLE);
        Check.due("40 LINES", Check.book(x, forty, 0), -1);
        toldIs(x, 0, 40, 40, 0);
        faulty(forty + "meal 1;", 4, 280);
        faulty(forty + " ann foo", 4, 281);
        faulty(forty + "meal 99;", 4, 280);
        // of one TOKEN the least
        faulty(forty + "zoe rises;", 3, 280);
        faulty(forty + "ham rises;", 3, 280);
        faulty(forty + "person;", 1, 280);
        faulty(forty + "Meal;", 1, 280);
        Check.due("blanks alone behind 40", Check.book(x, forty + " \n", 0), -1);
    }

    private static void tooLong() {
        String most = "meal 1;" + " ".repeat(393);
        SecondHelpings x = Check.at(TABLE);
        Check.due("400 bytes", Check.book(x, most, 0), -1);
        faulty(most + " ", 1, 400);
        faulty(most + "meal 1;", 1, 400);
        faulty(" ".repeat(398) + "meal 61;", 1, 400);
        faulty(" ".repeat(394) + "meal 61;", 2, 399);
        faulty(" ".repeat(399) + "zoe rises;", 3, 399);
        faulty(" ".repeat(399) + "ann rises;", 1, 400);
        faulty(" ".repeat(900), 1, 400);
    }

    private static void otherLives() {
        SecondHelpings x = Check.at(TABLE);
        Check.feed(x, "meal 3;");
        for (int lives : new int[] {2, -1, 3, Integer.MIN_VALUE, Integer.MAX_VALUE}) {
            Check.due("book(" + lives + ")", x.book(lives), -1000);
            Check.due("the tape stays", x.count(4), 7);
            Check.due("told(0)", x.told(0), -1);
        }
        Check.due("book(1)", x.book(1), -1);
        Check.due("count(4)", x.count(4), 0);
        Check.due("now(0)", x.now(0), 3);
    }
}
