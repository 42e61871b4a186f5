/** The edges that the document's 'Terms' name, sentence by sentence: TOKENS, TABLE, BOOK, SENTENCE, FAULTS. */
public final class EdgesOfTextsTest {
    private static final String TWO = "person ann 3;person bob 2 of ann;dish ham 9;dish pea 9;plate ann ham 2;";
    private static final String[] WORDS = {"person", "dish", "plate", "law", "dogs", "of", "spoils", "next", "child",
        "least", "eats", "served", "rises", "refuses", "accepts", "dies", "meal", "or", "and", "not", "dead", "refused",
        "clean", "has", "wants", "eaten", "hunger", "number"};

    public static void main(String[] args) {
        blanks();
        signs();
        lengthOfWords();
        lengthOfNumbers();
        howFarTokensGo();
        bytesOfTables();
        numbersOfTables();
        platesOnce();
        lawAndDogsOnce();
        namesOfTables();
        sevenAndSix();
        parentsAreTold();
        roundTheTable();
        bytesOfBooks();
        fortyLines();
        numbersOfBooks();
        bytesOfSentences();
        numbersOfSentences();
        twentyOnes();
        eightWithin();
        howOnesAreJoined();
        whatCantCome();
        theEnd();
        beyondTheMost();
        theFirstFault();
        theLeastOfOneToken();
        Check.finish("EdgesOfTextsTest");
    }

    // ---- TOKENS

    private static void blanks() {
        Check.says("with blanks (32, 10) between them or not");
        for (int sign = 0; sign < 256; sign++) {
            SecondHelpings x = new SecondHelpings();
            boolean blank = sign == 32 || sign == 10;
            Check.due("table with byte " + sign, Check.table(x, "dogs 1;" + (char) sign), blank ? 1 : -8);
            Check.due("fault", x.fault(), blank ? 0 : 1);
        }
        Check.due("none where none need be", Check.table(new SecondHelpings(), "person ann 3;dogs 2;"), 2);
        Check.due("many", Check.table(new SecondHelpings(), " \n person \n\n ann\n3 ; \n dogs\n2\n;\n"), 2);
    }

    private static void signs() {
        Check.says("; < = > ( )");
        for (int sign = 0; sign < 256; sign++) {
            SecondHelpings x = Check.at(TWO);
            boolean blank = sign == 32 || sign == 10;
            boolean goesOn = sign >= 'a' && sign <= 'z' || sign >= '0' && sign <= '9';
            boolean compares = sign == '<' || sign == '=' || sign == '>';
            int due = compares ? 1 : goesOn ? -1 : blank ? -7 : -6;
            Check.due("wants, byte " + sign + ", 5", Check.sentence(x, "wants" + (char) sign + "5"), due);
            boolean opens = sign == '(';
            Check.due("byte " + sign + ", dead)", Check.sentence(x, (char) sign + "dead)"), opens ? 2 : blank ? -6 : -1);
            boolean closes = sign == ')';
            due = closes ? 2 : goesOn ? -2 : blank ? -7 : -6;
            Check.due("(dead, byte " + sign, Check.sentence(x, "(dead" + (char) sign), due);
        }
    }

    private static void lengthOfWords() {
        Check.says("WORDS: small letters, 1 to 7");
        for (int n = 1; n <= 12; n++) {
            SecondHelpings x = new SecondHelpings();
            Check.due("a NAME of " + n, Check.table(x, "person " + "z".repeat(n) + " 1;"), n <= 7 ? 1 : -8);
            Check.due("fault", x.fault(), n <= 7 ? 0 : 1);
            Check.due("a WILL", x.will(0), n <= 7 ? n + 15 : -1);
        }
        // each letter counts, and each place
        for (int letter = 0; letter < 26; letter++) {
            char sign = (char) ('a' + letter);
            SecondHelpings x = Check.at("person z" + sign + "q 1;");
            Check.due("its letters", Check.willText(x, 0), "z" + sign + "q leaves nothing");
        }
        Check.due("all of them differ", Check.at("person a 1;person aa 1;person ab 1;person ba 1;person abcdefg 1;person abcdefh 1;person bbcdefg 1;").fault(), 0);
        for (int sign : new int[] {'A', 'Z', '`', '{', '_', 225}) {
            Check.tableFault("person " + (char) sign + " 1;", 1, 7);
        }
    }

    private static void lengthOfNumbers() {
        Check.says("NUMBERS: 1 to 3 digits");
        for (String number : new String[] {"7", "07", "007"}) {
            SecondHelpings x = Check.at("dogs " + number + ";");
            Check.due("dogs " + number, x.count(3), 7);
        }
        Check.tableFault("dogs 0007;", 1, 5);
        Check.tableFault("dogs 0000000000000;", 1, 5);
        Check.tableFault("dogs 4294967297;", 1, 5);
        Check.tableFault("dogs 999;", 2, 5);
        Check.tableFault("dogs -1;", 1, 5);
        Check.tableFault("dogs /;", 1, 5);
        Check.tableFault("dogs :;", 1, 5);
        for (int digit = 0; digit < 10; digit++) {
            Check.due("dogs " + digit, Check.at("dogs " + digit + ";").count(3), digit);
        }
    }

    private static void howFarTokensGo() {
        Check.says("A WORD, NUMBER goes on as long as small letters and digits do");
        Check.tableFault("dogs1;", 1, 0);
        Check.tableFault("dogs 1law next;", 1, 5);
        Check.tableFault("person a1 1;", 1, 7);
        Check.tableFault("person 1a 1;", 1, 7);
        Check.tableFault("person a 1of b;", 1, 9);
        Check.sentenceFault(TWO, "wants<5and dead", 1, 6);
        Check.due("signs end them", Check.sentence(Check.at(TWO), "(dead)and(wants<5)or(5=5"), -22);
        Check.due("signs end them", Check.sentence(Check.at(TWO), "(dead)and(wants<5)or not(clean)"), 7);
    }

    // ---- the TABLE

    private static String filled(String text, int bytes) {
        return " ".repeat(bytes - text.length()) + text;
    }

    private static void bytesOfTables() {
        Check.says("A TABLE is a text of at most 900 bytes");
        Check.due("0 bytes", Check.table(new SecondHelpings(), ""), 0);
        Check.due("899", Check.table(new SecondHelpings(), filled("dogs 3;", 899)), 1);
        Check.due("900", Check.table(new SecondHelpings(), filled("dogs 3;", 900)), 1);
        Check.tableFault(filled("dogs 3;", 901), 1, 900);
        Check.tableFault(filled("dogs 3;", 900) + " ", 1, 900);
        Check.tableFault(filled("dogs 3;", 940), 1, 900);
        // nothing but LINES: 100 of 9 bytes each would be too many of a sort, so the most there may be
        StringBuilder most = new StringBuilder("law\nleast;dogs 9;");
        for (int p = 0; p < 7; p++) {
            most.append("person ").append("abcdefg".charAt(p)).append(" 20").append(p > 0 ? " of a;" : ";");
        }
        for (int d = 0; d < 6; d++) {
            most.append("dish ").append("hijklm".charAt(d)).append(" 99 spoils 9;");
        }
        int lines = 15;
        for (int p = 0; p < 7; p++) {
            for (int d = 0; d < 6 && most.length() + 13 <= 900; d++) {
                most.append("plate ").append("abcdefg".charAt(p)).append(' ').append("hijklm".charAt(d)).append(" 40;");
                lines++;
            }
        }
        Check.due("LINES", Check.table(new SecondHelpings(), most.toString()), lines);
        Check.due("LINES are many", lines > 50, true);
    }

    /** Of all NUMBERS those from the least to the greatest are as told, each other one is FAULT 2 at it. */
    private static void rangeInTable(String ahead, String behind, int least, int greatest) {
        for (int n = 0; n < 1000; n++) {
            SecondHelpings x = new SecondHelpings();
            boolean asTold = n >= least && n <= greatest;
            int lines = (ahead + behind).length() - (ahead + behind).replace(";", "").length();
            int got = Check.table(x, ahead + n + behind);
            Check.due(ahead + n + behind, got, asTold ? lines : -1 - ahead.length());
            Check.due("fault of " + ahead + n + behind, x.fault(), asTold ? 0 : 2);
        }
    }

    private static void numbersOfTables() {
        Check.says("0 to 20 parts a MEAL");
        rangeInTable("person ann ", ";", 0, 20);
        rangeInTable("person ann 1;person bob ", " of ann;", 0, 20);
        Check.says("0 to 99");
        rangeInTable("dish ham ", ";", 0, 99);
        Check.says("'spoils' N: 1 to 9");
        rangeInTable("dish ham 5 spoils ", ";", 1, 9);
        Check.says("'plate' PERSON DISH N (1 to 40)");
        rangeInTable("person ann 1;dish ham 5;plate ann ham ", ";", 1, 40);
        Check.says("'dogs' N (0 to 9)");
        rangeInTable("dogs ", ";", 0, 9);
        SecondHelpings x = Check.at("person ann 0;person bob 20;dish ham 0 spoils 1;dish pea 99 spoils 9;plate ann ham 1;plate ann pea 40;");
        Check.due("WANTS 0", x.person(0, 0), 0);
        Check.due("WANTS 20", x.person(1, 0), 20);
        Check.due("0 parts", x.dish(0, 0), 0);
        Check.due("99 parts", x.dish(1, 0), 99);
        Check.due("spoils 1", x.dish(0, 1), 1);
        Check.due("spoils 9", x.dish(1, 1), 9);
        Check.due("plate 1", x.plate(0, 0), 1);
        Check.due("plate 40", x.plate(0, 1), 40);
        Check.due("spoils not", Check.at("dish ham 1;").dish(0, 1), 0);
    }

    private static void platesOnce() {
        Check.says("each two once; a DISH told again for a PERSON (at the DISH)");
        String twice = TWO + "plate ann ham 2;";
        Check.tableFault(twice, 3, twice.length() - 6);
        Check.due("another DISH", Check.table(new SecondHelpings(), TWO + "plate ann pea 2;"), 6);
        Check.due("another PERSON", Check.table(new SecondHelpings(), TWO + "plate bob ham 2;"), 6);
        Check.due("all four", Check.table(new SecondHelpings(), TWO + "plate bob ham 2;plate bob pea 1;plate ann pea 2;"), 8);
        String later = TWO + "plate bob ham 2;plate bob pea 1;plate ann pea 2;plate bob pea";
        Check.tableFault(later, 3, later.length() - 3);
    }

    private static void lawAndDogsOnce() {
        Check.says("'law' KIND (KIND: 'next', 'child', 'least'; once; 'next' without)");
        Check.due("without", Check.at("dogs 1;").count(2), 0);
        String[] kinds = {"next", "child", "least"};
        for (int i = 0; i < 3; i++) {
            Check.due("law", Check.at("law " + kinds[i] + ";").count(2), i);
            for (String other : kinds) {
                Check.tableFault("law " + kinds[i] + ";law " + other + ";", 3, kinds[i].length() + 5);
            }
        }
        for (String word : WORDS) {
            boolean kind = word.equals("next") || word.equals("child") || word.equals("least");
            Check.due("law " + word, Check.table(new SecondHelpings(), "law " + word + ";"), kind ? 1 : -5);
        }
        Check.says("'dogs' N (0 to 9; once; 0 without)");
        Check.due("without", Check.at("law next;").count(3), 0);
        Check.tableFault("dogs 0;dogs 0;", 3, 7);
        Check.tableFault("dogs 5;law next;dogs 5;", 3, 16);
        // both are told anew with another TABLE
        SecondHelpings x = Check.at("law least;dogs 7;");
        Check.due("another TABLE", Check.table(x, "law child;dogs 2;"), 2);
        Check.due("another TABLE", Check.table(x, ""), 0);
        Check.due("count(2)", x.count(2), 0);
        Check.due("count(3)", x.count(3), 0);
    }

    private static void namesOfTables() {
        Check.says("NAME: a WORD, none of those told here, in a BOOK or a SENTENCE");
        for (String word : WORDS) {
            Check.tableFault("person " + word + " 1;", 1, 7);
            Check.tableFault("dish " + word + " 1;", 1, 5);
            Check.tableFault("person ann 1 of " + word + ";", 1, 16);
            Check.tableFault("plate " + word + " ham 1;", 1, 6);
            Check.tableFault("person ann 1;plate ann " + word + " 1;", 1, 23);
            // a WORD that is nearly one of those is a NAME
            if (word.length() < 7) {
                Check.due(word + "x", Check.table(new SecondHelpings(), "person " + word + "x 1;"), 1);
            }
            String shorter = word.substring(1);
            boolean free = true;
            for (String other : WORDS) {
                free &= !other.equals(shorter);
            }
            Check.due(shorter, Check.table(new SecondHelpings(), "dish " + shorter + " 1;"), free ? 1 : -6);
        }
        Check.says("told once; 3 a NAME told twice");
        Check.tableFault("person ann 1;person ann 1;", 3, 20);
        Check.tableFault("person ann 1;dish ann 1;", 3, 18);
        Check.tableFault("dish ann 1;person ann 1;", 3, 18);
        Check.tableFault("dish ann 1;dish ann 1;", 3, 16);
        Check.says("3 a NAME not told, or of another sort");
        Check.tableFault("plate ann ham 1;person ann 1;", 3, 6);
        Check.tableFault("person ann 1;plate ann ham 1;dish ham 1;", 3, 23);
        Check.tableFault("person ann 1;plate ann ann 1;", 3, 23);
        Check.tableFault("dish ham 1;plate ham ham 1;", 3, 17);
        Check.tableFault("dish ham 1;person ann 1 of ham;", 3, 27);
    }

    private static void sevenAndSix() {
        Check.says("7 PERSONS, 6 DISHES at most; 4 one more than there may be of a sort (at the LINE's first WORD)");
        StringBuilder text = new StringBuilder();
        for (int p = 0; p < 7; p++) {
            text.append("person ").append("abcdefg".charAt(p)).append(' ').append(p).append(';');
            Check.due("PERSONS", Check.at(text.toString()).count(0), p + 1);
        }
        Check.tableFault(text + "person h 1;", 4, text.length());
        Check.tableFault(text + "\nperson", 4, text.length() + 1);
        for (int d = 0; d < 6; d++) {
            text.append("dish ").append("hijklm".charAt(d)).append(' ').append(d).append(';');
            Check.due("DISHES", Check.at(text.toString()).count(1), d + 1);
        }
        Check.tableFault(text + "dish n 1;", 4, text.length());
        Check.tableFault(text + " dish ?", 4, text.length() + 1);
        Check.tableFault(text + "person n 1;", 4, text.length());
        SecondHelpings x = Check.at(text.toString());
        Check.says("PERSONS, DISHES numbered from 0 each");
        for (int p = 0; p < 7; p++) {
            Check.due("WANTS", x.person(p, 0), p);
        }
        for (int d = 0; d < 6; d++) {
            Check.due("parts", x.dish(d, 0), d);
        }
    }

    private static void parentsAreTold() {
        Check.says("[ 'of' PERSON ] (that one is the parent); a NAME not told");
        Check.tableFault("person ann 1 of ann;", 3, 16);
        Check.tableFault("person ann 1 of bob;person bob 1;", 3, 16);
        SecondHelpings x = Check.at("person ann 1;person bob 1 of ann;person cid 1 of bob;");
        Check.due("person(0, 1)", x.person(0, 1), -1);
        Check.due("person(1, 1)", x.person(1, 1), 0);
        Check.due("person(2, 1)", x.person(2, 1), 1);
    }

    private static void roundTheTable() {
        Check.says("PERSONS sit round the table in this order");
        SecondHelpings x = Check.at("person a 1;dish x 1;person b 1;person c 1;dish y 1;person d 1;");
        for (int p = 0; p < 4; p++) {
            Check.due("heir(" + p + ")", x.heir(p), (p + 1) % 4);
        }
    }

    // ---- the BOOK

    private static void bytesOfBooks() {
        Check.says("A BOOK is a text of at most 400 bytes");
        Check.due("0 bytes", Check.book(Check.at(TWO), "", 0), -1);
        Check.due("399", Check.book(Check.at(TWO), filled("meal 3;", 399), 0), -1);
        Check.due("400", Check.book(Check.at(TWO), filled("meal 3;", 400), 0), -1);
        Check.bookFault(TWO, filled("meal 3;", 401), 1, 400);
        Check.bookFault(TWO, filled("meal 3;", 400) + "\n", 1, 400);
        Check.bookFault(TWO, filled("meal 3;", 900), 1, 400);
        Check.bookFault(TWO, filled("meal 3;", 940), 1, 400);
    }

    private static void fortyLines() {
        Check.says("{ LINE ; }, 40 at most; a 41st LINE of a BOOK (at the LINE's first WORD)");
        String forty = "ann dies;".repeat(40);
        for (int lines = 0; lines <= 40; lines++) {
            SecondHelpings x = Check.at(TWO);
            String text = "meal 1;".repeat(lines);
            Check.due(lines + " LINES", Check.book(x, text, 0), -1);
            Check.due("told(1)", x.told(1), lines);
        }
        Check.due("WRONG at the second", Check.book(Check.at(TWO), forty, 0), 1);
        Check.bookFault(TWO, forty + "meal 1;", 4, 360);
        Check.bookFault(TWO, forty + "ann dies;", 4, 360);
        Check.bookFault(TWO, forty + "   bob", 4, 363);
        Check.bookFault(TWO, forty + ";", 1, 360);
        Check.due("no LINE behind 40", Check.book(Check.at(TWO), forty + "  \n", 0), 1);
    }

    private static void rangeInBook(String ahead, String behind, int greatest) {
        SecondHelpings x = Check.at(TWO);
        for (int n = 0; n < 1000; n++) {
            boolean asTold = n >= 1 && n <= greatest;
            int got = Check.book(x, ahead + n + behind, 0);
            Check.due(ahead + n + behind, asTold ? got >= -1 : got == -2 - ahead.length(), true);
            Check.due("fault of " + ahead + n + behind, x.fault(), asTold ? 0 : 2);
        }
    }

    private static void numbersOfBooks() {
        Check.says("N of 'eats' 1 to 20, of 'served' 1 to 40, of 'meal' 1 to 60");
        rangeInBook("ann eats ham ", ";", 20);
        rangeInBook("ann served ham ", ";", 40);
        rangeInBook("meal ", ";", 60);
        rangeInBook("ann dies;meal ", ";bob dies;", 60);
        // the NUMBERS are taken as they are
        SecondHelpings x = Check.at("person ann 20;dish ham 40;");
        Check.due("book", Check.book(x, "ann served ham 40;ann eats ham 20;meal 60;", 1), -1);
        Check.due("plate", x.plate(0, 0), 20);
        Check.due("eaten", x.person(0, 4), 20);
        Check.due("now(0)", x.now(0), 60);
        Check.due("book", Check.book(x, "ann eats ham 1;meal 1;", 1), -1);
        Check.due("plate", x.plate(0, 0), 19);
        Check.due("now(0)", x.now(0), 61);
    }

    // ---- the SENTENCE

    private static void bytesOfSentences() {
        Check.says("A SENTENCE is a text of at most 200 bytes");
        Check.sentenceFault(TWO, "", 1, 0);
        Check.due("199", Check.sentence(Check.at(TWO), filled("dead", 199)), 1);
        Check.due("200", Check.sentence(Check.at(TWO), filled("dead", 200)), 1);
        Check.sentenceFault(TWO, filled("dead", 201), 1, 200);
        Check.sentenceFault(TWO, filled("dead", 200) + " ", 1, 200);
        Check.sentenceFault(TWO, filled("dead", 900), 1, 200);
        Check.sentenceFault(TWO, filled("dead", 940), 1, 200);
    }

    private static void numbersOfSentences() {
        Check.says("SIGN NUMBER: any NUMBER");
        SecondHelpings x = Check.at(TWO);
        x.meals(60);
        x.meals(60);
        x.meals(60);
        // HUNGER 540 and 360
        for (int n = 0; n < 1000; n++) {
            Check.due("sentence", Check.sentence(x, "hunger=" + n), 1);
            Check.due("hunger=" + n, x.said(-1), n == 540 || n == 360 ? 1 : 0);
        }
        for (int n : new int[] {0, 359, 360, 361, 539, 540, 541, 999}) {
            Check.sentence(x, "hunger<" + n);
            Check.due("hunger<" + n, x.said(-1), (540 < n ? 1 : 0) + (360 < n ? 1 : 0));
            Check.sentence(x, "hunger>" + n);
            Check.due("hunger>" + n, x.said(-1), (540 > n ? 1 : 0) + (360 > n ? 1 : 0));
        }
        Check.sentenceFault(TWO, "hunger=1000", 1, 7);
        SecondHelpings y = Check.at("person ann 20;");
        for (int i = 0; i < 4; i++) {
            y.meals(60);
        }
        Check.due("sentence", Check.sentence(y, "hunger>999"), 1);
        Check.due("HUNGER 4000", y.said(-1), 1);
    }

    private static void twentyOnes() {
        Check.says("20 ONES; a 21st ONE (at its first TOKEN)");
        for (String join : new String[] {" or ", " and "}) {
            StringBuilder text = new StringBuilder("dead");
            for (int ones = 1; ones <= 20; ones++) {
                Check.due(ones + " ONES", Check.sentence(Check.at(TWO), text.toString()), ones);
                text.append(join).append("dead");
            }
            Check.sentenceFault(TWO, text.toString(), 4, text.length() - 4);
        }
        // twenty, of which some are within others: the twenty-first ONE is FAULT 4, whatever it is
        String brackets = "(dead)or".repeat(9);
        Check.due("20", Check.sentence(Check.at(TWO), brackets + "(dead)"), 20);
        for (String one : new String[] {"dead", "refused", "clean", "of ann", "has ham", "wants<1", "eaten<1", "hunger<1", "number<1", "not dead", "(dead)"}) {
            Check.sentenceFault(TWO, brackets + "(dead)or " + one, 4, 81);
        }
        Check.due("19 and one", Check.sentence(Check.at(TWO), brackets + " dead or dead"), 20);
        Check.sentenceFault(TWO, brackets + " dead or(dead)", 4, 81);
        Check.sentenceFault(TWO, brackets + " dead or not dead", 4, 85);
    }

    private static void eightWithin() {
        Check.says("8 within one another; a ninth within (at its first TOKEN)");
        for (int nots = 0; nots <= 7; nots++) {
            Check.due("not " + nots, Check.sentence(Check.at(TWO), "not ".repeat(nots) + "dead"), nots + 1);
            Check.due("( " + nots, Check.sentence(Check.at(TWO), "(".repeat(nots) + "dead" + ")".repeat(nots)), nots + 1);
        }
        Check.sentenceFault(TWO, "not ".repeat(8) + "dead", 4, 32);
        Check.sentenceFault(TWO, "(".repeat(8) + "dead" + ")".repeat(8), 4, 8);
        Check.sentenceFault(TWO, "(".repeat(9) + "dead" + ")".repeat(9), 4, 8);
        Check.sentenceFault(TWO, "not ".repeat(9) + "dead", 4, 32);
        // ONES beside one another are not within one another
        Check.due("beside", Check.sentence(Check.at(TWO), "(".repeat(7) + "dead or clean" + ")".repeat(7) + "and not not not not not not not dead"), 17);
        String deep = "((dead)or(not(not(not dead";
        Check.due("8", Check.sentence(Check.at(TWO), deep + "))))"), 10);
        Check.sentenceFault(TWO, "((dead)or(not(not(not(dead)))))", 4, 22);
        Check.sentenceFault(TWO, "((dead)or(not(not(not not dead", 4, 26);
    }

    private static void said(String text, int bits) {
        SecondHelpings x = Check.at("person a 1;person b 1;person c 1;person d 1;");
        Check.due("sentence of " + text, Check.sentence(x, text) > 0, true);
        Check.due("said of " + text, Check.saidBits(x), bits);
    }

    private static void howOnesAreJoined() {
        Check.says("COND: ALL { 'or' ALL }. ALL: ONE { 'and' ONE }. ONE: 'not' ONE");
        said("number=0 or number=1 and number=2", 1);
        said("number=1 and number=2 or number=0", 1);
        said("(number=0 or number=1) and number=1", 2);
        said("not number=0 or number=0", 15);
        said("not number=0 and number=0", 0);
        said("not (number=0 and number=1)", 15);
        said("not number=0 and not number=1 and not number=2", 8);
        said("number=0 or number=2 and number=2 or number=3", 13);
        said("number<2 and number>0 or number>1 and number<3", 6);
        said("not not not number=1", 13);
        // deeper ones are worked out ahead of what waits for them
        said("number=0 or number=1 and (number=1 or number=2)", 3);
        said("number=0 or number=1 and (number=2 or number=3)", 1);
        said("number=3 or number<3 and (number=2 and number>1 or number=0 and (number=0 or number=1))", 13);
        said("number=0 or (number=1 or (number=2 or (number=3 or number=9)))", 15);
        said("number<4 and (number<3 and (number<2 and (number<1 and number<9)))", 1);
        said("number>2 or (number<3 and (number>0 or (number=0 and not (number=0 or number=1))))", 14);
        said("not (number=0 or not (number=1 or number=0)) and (number>0 or number=0)", 2);
    }

    // ---- FAULTS

    private static void whatCantCome() {
        Check.says("1 no TOKEN, or one that can't come (at it)");
        String[] tokens = {"ann", "zoe", "ham", "7", ";", "<", "=", ">", "(", ")", "person", "dish", "plate", "law",
            "dogs", "of", "spoils", "next", "eats", "rises", "meal", "or", "and", "not", "dead", "has", "wants", "?", "x1"};
        for (String token : tokens) {
            boolean line = "person dish plate law dogs".contains(token);
            if (!line) {
                Check.tableFault(TWO + token + " ", 1, TWO.length());
            }
            if (!token.equals(";")) {
                Check.tableFault("dogs 1 " + token, 1, 7);
                Check.bookFault(TWO, "ann rises " + token, 1, 10);
                Check.bookFault(TWO, "ann eats ham 1 " + token, 1, 15);
                Check.bookFault(TWO, "meal 1 " + token, 1, 7);
                if (!token.equals("of")) {
                    Check.tableFault("person ann 1 " + token, 1, 13);
                }
                if (!token.equals("spoils")) {
                    Check.tableFault("dish ham 1 " + token, 1, 11);
                }
            }
            if (!token.equals("7")) {
                Check.tableFault("dogs " + token, 1, 5);
                Check.tableFault("person ann " + token, 1, 11);
                Check.tableFault("dish ham 1 spoils " + token, 1, 18);
                Check.bookFault(TWO, "meal " + token, 1, 5);
                Check.sentenceFault(TWO, "wants< " + token, 1, 7);
            }
            boolean starts = "( not dead of has wants".contains(token);
            if (!starts) {
                Check.sentenceFault(TWO, token, 1, 0);
                Check.sentenceFault(TWO, "not " + token, 1, 4);
                Check.sentenceFault(TWO, "dead or " + token, 1, 8);
            }
            if (!token.equals("or") && !token.equals("and")) {
                Check.sentenceFault(TWO, "dead " + token, 1, 5);
            }
            boolean named = token.equals("ann") || token.equals("zoe") || token.equals("ham");
            if (!named) {
                Check.tableFault("person " + token, 1, 7);
                Check.sentenceFault(TWO, "of " + token, 1, 3);
                Check.sentenceFault(TWO, "has " + token, 1, 4);
                Check.bookFault(TWO, "ann eats " + token, 1, 9);
                if (!token.equals("meal")) {
                    Check.bookFault(TWO, token, 1, 0);
                }
            }
        }
    }

    private static void theEnd() {
        Check.says("the end: how many bytes there are");
        Check.tableFault("dogs", 1, 4);
        Check.tableFault("dogs  \n ", 1, 8);
        Check.tableFault("dogs 1", 1, 6);
        Check.tableFault("dogs 1" + " ".repeat(893), 1, 899);
        Check.tableFault("dogs 1" + " ".repeat(894), 1, 900);
        Check.bookFault(TWO, "ann", 1, 3);
        Check.bookFault(TWO, "ann ", 1, 4);
        Check.bookFault(TWO, "ann rises" + " ".repeat(391), 1, 400);
        Check.bookFault(TWO, "ann rises" + " ".repeat(390), 1, 399);
        Check.sentenceFault(TWO, "\n", 1, 1);
        Check.sentenceFault(TWO, "not ", 1, 4);
        Check.sentenceFault(TWO, "(dead", 1, 5);
        Check.sentenceFault(TWO, "(dead" + " ".repeat(194), 1, 199);
        Check.sentenceFault(TWO, "(dead" + " ".repeat(195), 1, 200);
    }

    private static void beyondTheMost() {
        Check.says("the most bytes told, if there are more and no FAULT is ahead: TOKENS that begin ahead of it are read whole");
        // the last TOKEN begins at 899 (399, 199) and goes on behind it
        Check.tableFault(filled("dogs ", 899) + "1;", 1, 900);
        Check.tableFault(filled("dogs ", 899) + "10;", 2, 899);
        Check.tableFault(filled("dogs ", 899) + "1000;", 1, 899);
        Check.tableFault(filled("dogs ", 899) + "1x;", 1, 899);
        Check.tableFault(filled("person ", 899) + "abcdefg 1;", 1, 900);
        Check.tableFault(filled("person ", 899) + "abcdefgh 1;", 1, 899);
        Check.tableFault(filled("person ", 899) + "a".repeat(40), 1, 899);
        Check.tableFault(filled("dogs 1;", 899) + "law next;", 1, 900);
        Check.tableFault(filled("dogs 1;", 899) + "lax next;", 1, 899);
        Check.tableFault(filled("dogs 1;", 899) + "dogs 1;", 3, 899);
        Check.tableFault(filled("dogs ", 900) + "1;", 1, 900);
        Check.tableFault(filled("dogs ", 900) + "99;", 1, 900);
        Check.tableFault(filled("dogs 1", 900) + ";", 1, 900);
        Check.tableFault("?" + filled("dogs 1;", 920), 1, 0);
        Check.bookFault(TWO, filled("meal ", 399) + "60;", 1, 400);
        Check.bookFault(TWO, filled("meal ", 399) + "61;", 2, 399);
        Check.bookFault(TWO, filled("", 399) + "zoe dies;", 3, 399);
        Check.bookFault(TWO, filled("", 399) + "ann dies;", 1, 400);
        Check.bookFault(TWO, filled("ann dies", 400) + ";", 1, 400);
        Check.sentenceFault(TWO, filled("of ", 199) + "zoe", 3, 199);
        Check.sentenceFault(TWO, filled("of ", 199) + "ann", 1, 200);
        Check.sentenceFault(TWO, filled("", 199) + "dead", 1, 200);
        Check.sentenceFault(TWO, filled("", 199) + "deaf", 1, 199);
        Check.sentenceFault(TWO, filled("", 200) + "deaf", 1, 200);
    }

    private static void theFirstFault() {
        Check.says("FAULTS, the first along the text");
        Check.tableFault("dogs 99;person ann 1 of zoe;?", 2, 5);
        Check.tableFault("person ann 1 of zoe;dogs 99;?", 3, 16);
        Check.tableFault("? dogs 99;", 1, 0);
        Check.bookFault(TWO, "meal 61;zoe dies;?", 2, 5);
        Check.bookFault(TWO, "zoe dies;meal 61;?", 3, 0);
        Check.sentenceFault(TWO, "of zoe or ?", 3, 3);
        Check.sentenceFault(TWO, "dead ? of zoe", 1, 5);
    }

    private static void theLeastOfOneToken() {
        Check.says("of one TOKEN the least");
        String forty = "ann dies;".repeat(40);
        Check.bookFault(TWO, forty + "zoe dies;", 3, 360);
        Check.bookFault(TWO, forty + "ham dies;", 3, 360);
        Check.bookFault(TWO, forty + "dies;", 1, 360);
        Check.bookFault(TWO, forty + "?", 1, 360);
        Check.bookFault(TWO, forty + "7", 1, 360);
        String twenty = "dead" + " or dead".repeat(19);
        Check.sentenceFault(TWO, twenty + " or ann", 1, twenty.length() + 4);
        Check.sentenceFault(TWO, twenty + " or ", 1, twenty.length() + 4);
        Check.sentenceFault(TWO, twenty + " or ?", 1, twenty.length() + 4);
        Check.sentenceFault(TWO, "not ".repeat(8) + "?", 1, 32);
        Check.sentenceFault(TWO, "not ".repeat(8) + "or", 1, 32);
        Check.sentenceFault(TWO, "not ".repeat(8), 1, 32);
    }
}
