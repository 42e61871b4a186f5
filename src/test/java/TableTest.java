/** Promises 4 and 5: the TABLE's text and its FAULTS. */
public final class TableTest {
    private static final String SEVEN = "person a 1;person b 1;person c 1;person d 1;person e 1;person f 1;person g 1;";
    private static final String SIX = "dish h 1;dish i 1;dish j 1;dish k 1;dish l 1;dish m 1;";

    public static void main(String[] args) {
        readAsTold();
        tokens();
        whatCantCome();
        numbers();
        names();
        tooMany();
        tooLong();
        replaced();
        Check.finish("TableTest");
    }

    /** A FAULT: kind and place; what stood stays, and the tape is empty. */
    private static void faulty(String text, int kind, int place) {
        SecondHelpings x = Check.at("person zoe 7;dogs 5;");
        Check.due("table of " + text, Check.table(x, text), -1 - place);
        Check.due("fault of " + text, x.fault(), kind);
        Check.due("count(4)", x.count(4), 0);
        Check.due("count(0)", x.count(0), 1);
        Check.due("count(1)", x.count(1), 0);
        Check.due("count(3)", x.count(3), 5);
        Check.due("person(0, 0)", x.person(0, 0), 7);
    }

    private static void fine(String text) {
        SecondHelpings x = Check.at(text);
        Check.due("fault of " + text, x.fault(), 0);
    }

    private static void readAsTold() {
        SecondHelpings x = Check.at("dish pie 99 spoils 9;person ann 20;plate ann pie 40;person bob 0 of ann;dish ham 0;law least;dogs 0;");
        Check.due("all", Check.all(x), "2 2 2 0 0 0 0 0 0 0 0 0 |20 -1 0 0 0 0 0 40 2 40,0,|0 0 0 0 0 0 0 0 0 0,0,/99 9 40/0 0 0");
        Check.due("empty", Check.table(x, ""), 0);
        Check.due("fault()", x.fault(), 0);
        Check.due("count(0)", x.count(0), 0);
        Check.due("blanks alone", Check.table(x, " \n \n"), 0);
    }

    private static void tokens() {
        fine("person\nann\n\n 3 \n;dogs 1 ;");
        fine("person abcdefg 003;");
        fine("dogs 009;");
        faulty("person abcdefgh 3;", 1, 7);
        faulty("person ab1 3;", 1, 7);
        faulty("person 1ab 3;", 1, 7);
        faulty("person ab3;", 1, 7);
        faulty("person ab 0003;", 1, 10);
        faulty("person ab 3x;", 1, 10);
        faulty("person Ab 3;", 1, 7);
        faulty("person aB 3;", 1, 8);
        faulty("person a\t3;", 1, 8);
        faulty("person a\r3;", 1, 8);
        faulty("person a 3\0;", 1, 10);
        faulty("person a 3\u00e9;", 1, 10);
        faulty("person a 3.;", 1, 10);
        faulty("person a 3:", 1, 10);
        faulty("?person a 3;", 1, 0);
        faulty("dogs1;", 1, 0);
        faulty("dogs 1;  #", 1, 9);
    }

    private static void whatCantCome() {
        faulty(";", 1, 0);
        faulty("person a 3;;", 1, 11);
        faulty("foo;", 1, 0);
        faulty("spoils 3;", 1, 0);
        faulty("eats;", 1, 0);
        faulty("7;", 1, 0);
        faulty("(", 1, 0);
        faulty("person", 1, 6);
        faulty("person  ", 1, 8);
        faulty("person a", 1, 8);
        faulty("person a 3", 1, 10);
        faulty("person a 3 \n", 1, 12);
        faulty("person a 3 of", 1, 13);
        faulty("person a 3 of;", 1, 13);
        faulty("person a 3 4;", 1, 11);
        faulty("person a 3 spoils;", 1, 11);
        faulty("person a;", 1, 8);
        faulty("person 3 a;", 1, 7);
        faulty("person a b;", 1, 9);
        faulty("person a 3 person b 4;", 1, 11);
        faulty("person a 3;person b 3 of 4;", 1, 25);
        faulty("dish a 3 of b;", 1, 9);
        faulty("dish a 3 spoils;", 1, 15);
        faulty("dish a spoils 3;", 1, 7);
        faulty("plate;", 1, 5);
        faulty("person a 1;dish b 1;plate a b;", 1, 29);
        faulty("person a 1;dish b 1;plate a 3;", 1, 28);
        faulty("person a 1;dish b 1;plate a b 3 4;", 1, 32);
        faulty("law;", 1, 3);
        faulty("law foo;", 1, 4);
        faulty("law of;", 1, 4);
        faulty("law 1;", 1, 4);
        faulty("law next child;", 1, 9);
        faulty("dogs;", 1, 4);
        faulty("dogs two;", 1, 5);
        faulty("dogs 2 3;", 1, 7);
        String[] reserved = {"person", "dish", "plate", "law", "dogs", "of", "spoils", "next", "child", "least",
            "eats", "served", "rises", "refuses", "accepts", "dies", "meal", "or", "and", "not", "dead", "refused",
            "clean", "has", "wants", "eaten", "hunger", "number"};
        for (String word : reserved) {
            faulty("person " + word + " 3;", 1, 7);
            faulty("dish " + word + " 3;", 1, 5);
            faulty("person a 1;plate " + word + " 3;", 1, 17);
        }
        for (String word : new String[] {"kind", "name", "leaves", "nothing", "nobody", "to", "eat", "dishes", "none"}) {
            fine("person " + word + " 3;");
        }
    }

    private static void numbers() {
        fine("person a 0;person b 20;dish c 0;dish d 99;dish e 1 spoils 1;dish f 1 spoils 9;plate a c 1;plate a d 40;dogs 0;");
        fine("dogs 9;");
        faulty("person a 21;", 2, 9);
        faulty("person a 999;", 2, 9);
        faulty("dish a 100;", 2, 7);
        faulty("dish a 1 spoils 0;", 2, 16);
        faulty("dish a 1 spoils 10;", 2, 16);
        faulty("person a 1;dish b 1;plate a b 0;", 2, 30);
        faulty("person a 1;dish b 1;plate a b 41;", 2, 30);
        faulty("dogs 10;", 2, 5);
        faulty("dogs 10 10", 2, 5);
        // the first FAULT along the text counts, not the least kind of all
        faulty("person a 21?", 2, 9);
        faulty("person a 21;person a 3;", 2, 9);
    }

    private static void names() {
        faulty("person a 1;person a 2;", 3, 18);
        faulty("dish a 1;dish a 2;", 3, 14);
        faulty("person a 1;dish a 2;", 3, 16);
        faulty("dish a 1;person a 2;", 3, 16);
        faulty("person a 1 of b;", 3, 14);
        faulty("person a 1 of a;", 3, 14);
        faulty("person a 1 of b;person b 1;", 3, 14);
        faulty("dish b 1;person a 1 of b;", 3, 23);
        faulty("plate a b 1;", 3, 6);
        faulty("person a 1;plate a b 1;", 3, 19);
        faulty("dish b 1;plate b b 1;", 3, 15);
        faulty("person a 1;plate a a 1;", 3, 19);
        faulty("person a 1;dish b 1;plate a b 1;plate a b 2;", 3, 40);
        faulty("person a 1;dish b 1;plate a b 1;plate a b", 3, 40);
        fine("person a 1;person c 1;dish b 1;dish d 1;plate a b 1;plate c b 2;plate a d 1;plate c d 1;");
        faulty("law next;law next;", 3, 9);
        faulty("law next;law child;", 3, 9);
        faulty("law next;law", 3, 9);
        faulty("dogs 0;dogs 0;", 3, 7);
        faulty("dogs 1;law next;dogs", 3, 16);
    }

    private static void tooMany() {
        fine(SEVEN + SIX);
        faulty(SEVEN + "person n 1;", 4, SEVEN.length());
        faulty(SEVEN + "person a 99;", 4, SEVEN.length());
        faulty(SEVEN + " person", 4, SEVEN.length() + 1);
        faulty(SIX + "dish n 1;", 4, SIX.length());
        faulty(SIX + SEVEN + "dish h 1;", 4, SIX.length() + SEVEN.length());
        faulty(SEVEN + "persons n 1;", 1, SEVEN.length());
    }

    private static void tooLong() {
        String nine = "dogs 1;" + " ".repeat(893);
        fine(nine);
        faulty(nine + " ", 1, 900);
        faulty(nine + "?", 1, 900);
        faulty(" ".repeat(940), 1, 900);
        faulty("dogs 1;" + " ".repeat(900) + "law next;", 1, 900);
        faulty("dogs 11;" + " ".repeat(900), 2, 5);
        // a TOKEN that begins ahead is read whole, here a NAME of 7, 8 letters, and a NUMBER
        String most = " ".repeat(890);
        faulty(most + "person abcdefg 3;", 1, 900);
        faulty(most + "person abcdefgh 3;", 1, 897);
        faulty(" ".repeat(895) + "dogs 4", 1, 900);
        faulty(" ".repeat(894) + "dogs 40;", 2, 899);
        faulty(" ".repeat(894) + "dogs 4000;", 1, 899);
        faulty(" ".repeat(894) + "dogs 4;", 1, 900);
        faulty(" ".repeat(893) + "dogs 4;;", 1, 900);
        faulty(" ".repeat(892) + "dogs 4;;", 1, 899);
    }

    private static void replaced() {
        SecondHelpings x = Check.at("person a 4;person b 4;dish d 9 spoils 1;plate a d 9;dogs 2;law child;");
        x.eat(0, 0, 2);
        x.refuse(1);
        x.meals(3);
        x.rise(0);
        x.die(1);
        Check.due("sentence", Check.sentence(x, "dead"), 1);
        Check.due("said(-1)", x.said(-1), 1);
        Check.due("table", Check.table(x, "person c 2;dish e 3;plate c e 1;"), 3);
        Check.due("all", Check.all(x), "1 1 0 0 0 0 0 0 0 0 0 0 |2 -1 0 0 0 0 0 1 0 1,/3 0 1");
        Check.due("said(-1)", x.said(-1), -1);
        Check.due("undo()", x.undo(), -1);
        // a FAULT leaves all as it is, what can be undone too
        x.eat(0, 0, 1);
        Check.due("sentence", Check.sentence(x, "clean"), 1);
        Check.due("table", Check.table(x, "dogs"), -5);
        Check.due("fault()", x.fault(), 1);
        Check.due("person(0, 4)", x.person(0, 4), 1);
        Check.due("said(-1)", x.said(-1), 1);
        Check.due("undo()", x.undo(), 0);
        Check.due("person(0, 4)", x.person(0, 4), 0);
        // the latest of table(), book(), sentence() counts
        Check.due("fault()", x.fault(), 1);
        Check.due("book(2)", x.book(2), -1000);
        Check.due("fault()", x.fault(), 1);
        Check.due("sentence", Check.sentence(x, "of zoe"), -4);
        Check.due("fault()", x.fault(), 3);
        Check.due("book", Check.book(x, "meal 61;", 0), -7);
        Check.due("fault()", x.fault(), 2);
        Check.due("book", Check.book(x, "meal 1;", 0), -1);
        Check.due("fault()", x.fault(), 0);
    }
}
