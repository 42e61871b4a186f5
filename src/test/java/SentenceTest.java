/** Promises 38 and 39: the SENTENCE, and of whom it may be said. */
public final class SentenceTest {
    private static final String TABLE = "person ann 6;person bob 3 of ann;person cid 5 of ann;person dan 3 of bob;"
            + "dish ham 50;dish pea 7;plate ann ham 5;plate ann pea 4;plate bob pea 2;";

    public static void main(String[] args) {
        eachOne();
        joined();
        saidOf();
        faults();
        tooManyOnes();
        tooDeep();
        tooLong();
        stays();
        Check.finish("SentenceTest");
    }

    private static SecondHelpings prepared() {
        SecondHelpings x = Check.at(TABLE);
        x.eat(0, 0, 2);
        x.eat(1, 1, 1);
        x.meals(1);
        x.eat(0, 0, 1);
        x.refuse(1);
        x.refuse(3);
        x.die(3);
        // eaten 3 1 0 0, HUNGER 4 2 5 3; ham 2 0 0 0, peas 4 1 0 0; dan dead; bob, dan refuse
        return x;
    }

    private static void holds(String text, int ones, int bits) {
        SecondHelpings x = prepared();
        Check.due("sentence of " + text, Check.sentence(x, text), ones);
        Check.due("fault()", x.fault(), 0);
        Check.due("count(4)", x.count(4), 0);
        Check.due("said of " + text, Check.saidBits(x), bits);
    }

    private static void eachOne() {
        holds("dead", 1, 8);
        holds("refused", 1, 10);
        holds("clean", 1, 12);
        holds("of ann", 1, 6);
        holds("of bob", 1, 8);
        holds("of dan", 1, 0);
        holds("has ham", 1, 1);
        holds("has pea", 1, 3);
        holds("wants = 3", 1, 10);
        holds("wants<5", 1, 10);
        holds("wants>4", 1, 5);
        holds("eaten=0", 1, 12);
        holds("eaten>0", 1, 3);
        holds("eaten<3", 1, 14);
        holds("hunger=4", 1, 1);
        holds("hunger>2", 1, 13);
        holds("hunger<4", 1, 10);
        holds("number=2", 1, 4);
        holds("number<2", 1, 3);
        holds("number>0", 1, 14);
        holds("number<999", 1, 15);
        holds("number<000", 1, 0);
    }

    private static void joined() {
        holds("not dead", 2, 7);
        holds("not not dead", 3, 8);
        holds("(dead)", 2, 8);
        holds("dead or of ann and refused", 3, 10);
        holds("refused and of ann or dead", 3, 10);
        holds("(dead or of ann) and refused", 4, 10);
        holds("(dead or of ann) and clean", 4, 12);
        holds("dead or of ann and clean", 3, 12);
        holds("number=0 or number=1 and dead", 3, 1);
        holds("(number=0 or number=1) and not dead", 5, 3);
        holds("not dead and clean", 3, 4);
        holds("not (dead and clean)", 4, 7);
        holds("not dead or dead", 3, 15);
        holds("not(dead or not(clean))", 6, 4);
        holds("number=0 or number=1 or number=3", 3, 11);
        holds("wants<6 and wants>2 and clean", 3, 12);
        holds("\n dead \n", 1, 8);
    }

    private static void saidOf() {
        SecondHelpings x = prepared();
        Check.due("no SENTENCE", x.said(-1), -1);
        Check.due("no SENTENCE", x.said(0), -1);
        Check.sentence(x, "wants=3 or number=0");
        Check.due("said(-1)", x.said(-1), 3);
        Check.due("said(0)", x.said(0), 0);
        Check.due("said(1)", x.said(1), 1);
        Check.due("said(2)", x.said(2), 3);
        Check.due("said(3)", x.said(3), -1);
        Check.due("said(-2)", x.said(-2), -1);
        Check.due("said(greatest)", x.said(Integer.MAX_VALUE), -1);
        Check.due("said(least)", x.said(Integer.MIN_VALUE), -1);
        Check.sentence(x, "number>7");
        Check.due("of nobody", x.said(-1), 0);
        Check.due("said(0)", x.said(0), -1);
        // it is said of what is so now
        Check.sentence(x, "dead");
        Check.due("said(-1)", x.said(-1), 1);
        x.die(0);
        Check.due("said(-1)", x.said(-1), 2);
        SecondHelpings y = new SecondHelpings();
        Check.due("of no PERSONS", Check.sentence(y, "not dead"), 2);
        Check.due("said(-1)", y.said(-1), 0);
    }

    private static void faulty(String text, int kind, int place) {
        SecondHelpings x = prepared();
        Check.due("sentence", Check.sentence(x, "wants=6 or dead"), 2);
        Check.due("sentence of " + text, Check.sentence(x, text), -1 - place);
        Check.due("fault of " + text, x.fault(), kind);
        Check.due("count(4)", x.count(4), 0);
        Check.due("it stays", Check.saidBits(x), 9);
    }

    private static void faults() {
        faulty("", 1, 0);
        faulty("  ", 1, 2);
        faulty("ann", 1, 0);
        faulty("zoe", 1, 0);
        faulty("or", 1, 0);
        faulty("and dead", 1, 0);
        faulty("person", 1, 0);
        faulty("meal", 1, 0);
        faulty("spoils", 1, 0);
        faulty("5", 1, 0);
        faulty(")", 1, 0);
        faulty("dead;", 1, 4);
        faulty("dead.", 1, 4);
        faulty("dead dead", 1, 5);
        faulty("dead not dead", 1, 5);
        faulty("dead or", 1, 7);
        faulty("dead or or", 1, 8);
        faulty("dead and", 1, 8);
        faulty("dead and )", 1, 9);
        faulty("not", 1, 3);
        faulty("not or dead", 1, 4);
        faulty("(dead", 1, 5);
        faulty("(dead or", 1, 8);
        faulty("()", 1, 1);
        faulty("(dead))", 1, 6);
        faulty("(dead;", 1, 5);
        faulty("of", 1, 2);
        faulty("of 3", 1, 3);
        faulty("of of", 1, 3);
        faulty("of zoe", 3, 3);
        faulty("of ham", 3, 3);
        faulty("has", 1, 3);
        faulty("has 3", 1, 4);
        faulty("has ann", 3, 4);
        faulty("has fish", 3, 4);
        faulty("wants", 1, 5);
        faulty("wants 5", 1, 6);
        faulty("wants <", 1, 7);
        faulty("wants ; 5", 1, 6);
        faulty("wants < ham", 1, 8);
        faulty("wants << 5", 1, 7);
        faulty("wants < 1000", 1, 8);
        faulty("wants <= 5", 1, 7);
        faulty("eaten", 1, 5);
        faulty("hunger dead", 1, 7);
        faulty("number(", 1, 6);
        faulty("deadly", 1, 0);
        faulty("dead or DEAD", 1, 8);
    }

    private static void tooManyOnes() {
        String twenty = "dead" + " or dead".repeat(19);
        holds(twenty, 20, 8);
        faulty(twenty + " or clean", 4, twenty.length() + 4);
        faulty(twenty + " or not", 4, twenty.length() + 4);
        faulty(twenty + " or (", 4, twenty.length() + 4);
        faulty(twenty + " and has zoe", 4, twenty.length() + 5);
        // of one TOKEN the least
        faulty(twenty + " or zoe", 1, twenty.length() + 4);
        faulty(twenty + " or", 1, twenty.length() + 3);
        faulty(twenty + " dead", 1, twenty.length() + 1);
        String ands = "dead" + " and dead".repeat(19);
        holds(ands, 20, 8);
        faulty(ands + " and clean", 4, ands.length() + 5);
        // each 'not' and each bracket counts
        String nots = "not dead and " + "(dead) or ".repeat(8) + "not clean";
        holds(nots, 20, 11);
        faulty(nots + " or dead", 4, nots.length() + 4);
    }

    private static void tooDeep() {
        holds("not not not not not not not dead", 8, 7);
        faulty("not not not not not not not not dead", 4, 32);
        holds("(((((((dead)))))))", 8, 8);
        faulty("((((((((dead))))))))", 4, 8);
        faulty("((((((((zoe))))))))", 1, 8);
        faulty("(((((((((dead)))))))))", 4, 8);
        holds("not(not(not(not dead)))", 8, 8);
        faulty("not(not(not(not(dead))))", 4, 16);
        holds("(((((((dead or clean and dead)))))))or not not not not not not not dead", 18, 15);
    }

    private static void tooLong() {
        String most = "dead" + " ".repeat(196);
        holds(most, 1, 8);
        faulty(most + " ", 1, 200);
        faulty(most + "or", 1, 200);
        faulty("dead" + " ".repeat(196 - 2) + " or dead", 1, 200);
        faulty("dead " + " ".repeat(193) + "an", 1, 198);
        faulty("dead " + " ".repeat(193) + "andy", 1, 198);
        faulty("dead " + " ".repeat(193) + "and clean", 1, 200);
        faulty("of " + " ".repeat(196) + "zoe", 3, 199);
        faulty("of " + " ".repeat(196) + "ann", 1, 200);
        faulty("of " + " ".repeat(197) + "zoe", 1, 200);
    }

    private static void stays() {
        SecondHelpings x = prepared();
        Check.sentence(x, "of ann");
        Check.due("another one", Check.sentence(x, "of bob"), 1);
        Check.due("said", Check.saidBits(x), 8);
        x.meals(1);
        x.undo();
        Check.book(x, "meal 2;", 1);
        Check.due("said", Check.saidBits(x), 8);
        Check.due("table", Check.table(x, "person zoe 1;"), 1);
        Check.due("a new TABLE has none", x.said(-1), -1);
    }
}
