/** The edges that each promise names, from 1 to 42: too small, too large, ahead of any, refused calls. */
public final class EdgesOfCallsTest {
    private static final String TABLE = "person ann 4;person bob 3 of ann;person cid 5 of ann;dish ham 30;dish pea 20 spoils 2;"
            + "plate ann ham 9;plate ann pea 5;plate bob ham 4;plate cid pea 7;dogs 1;";
    private static final int PERSONS = 3;
    private static final int DISHES = 2;
    /** Numbers round the edges of all that is told. */
    private static final int[] ODD = {Integer.MIN_VALUE, Integer.MIN_VALUE + 1, -1000, -256, -3, -2, -1, 0, 1, 2, 3, 4, 5, 6, 7, 8,
        9, 10, 20, 21, 30, 31, 32, 40, 41, 60, 61, 127, 128, 255, 256, 257, 900, 940, 65536, 1 << 30, Integer.MAX_VALUE - 1, Integer.MAX_VALUE};

    public static void main(String[] args) {
        promise1();
        promise2();
        promise3();
        promise4();
        promise5();
        promise6();
        promise7();
        promise8();
        promise9();
        promise10();
        promise11();
        promises12To15();
        promise16();
        promise17();
        promises18And19();
        promises20And21();
        promises22To24();
        promise25();
        promise26();
        promises27And28();
        promise29();
        promise30();
        promise31();
        promises32And33();
        promise34();
        promise35();
        promise36();
        promise37();
        promise38();
        promise39();
        promise40();
        promise41();
        promise42();
        atMost512Calls();
        Check.finish("EdgesOfCallsTest");
    }

    private static boolean isPerson(int p) {
        return p >= 0 && p < PERSONS;
    }

    private static boolean isDish(int d) {
        return d >= 0 && d < DISHES;
    }

    /** A refused call has left everything, the tape too, and nothing more can be undone. */
    private static void nothingChanged(SecondHelpings x, String before, int bytes) {
        Check.due("all stays", Check.all(x), before);
        Check.due("the tape stays", x.count(4), bytes);
        Check.due("nothing was done", x.undo(), -1);
    }

    private static void promise1() {
        Check.says("1: An empty TABLE; an empty tape");
        SecondHelpings x = new SecondHelpings();
        for (int what = 0; what < 5; what++) {
            Check.due("count(" + what + ")", x.count(what), 0);
        }
        Check.due("table()", x.table(), 0);
        Check.due("book(0)", x.book(0), -1);
        Check.due("sentence()", x.sentence(), -1);
        Check.due("a NAME is not told", Check.book(x, "ann dies;", 0), -2);
        Check.due("fault()", x.fault(), 3);
    }

    private static void promise2() {
        Check.says("2: Twenty bytes come behind the tape, of each number the highest first");
        SecondHelpings x = Check.at("person a 1;person b 1;person c 1;person d 1;person e 1;person f 1;person g 1;dish x 1;");
        // each of the twenty bytes, one by one: left() takes a byte of a PERSON alone
        for (int i = 0; i < 20; i++) {
            for (int shift = 0; shift < 7; shift++) {
                int[] five = new int[5];
                five[i / 4] = shift << 24 - 8 * (i % 4);
                Check.due("feed", x.feed(five[0], five[1], five[2], five[3], five[4]), 20);
                Check.due("end", x.end(i + 1), true);
                if (i < 7) {
                    // all ahead are 0: 'a' and the one told die; his plate and hers are empty
                    Check.due("left", x.left(0), 0);
                } else {
                    Check.due("too many for left", x.left(0), -1);
                }
            }
        }
        SecondHelpings y = new SecondHelpings();
        Check.due("a text over all five", y.feed(0x70657273, 0x6f6e2061, 0x2032303b, 0x646f6773, 0x20393b0a), 20);
        Check.due("table", y.table(), 2);
        Check.due("WANTS", y.person(0, 0), 20);
        Check.due("dogs", y.count(3), 9);
        Check.says("2: NONE, and none come, if it would have more than 940");
        SecondHelpings z = new SecondHelpings();
        for (int i = 1; i <= 47; i++) {
            Check.due("feed", z.feed(-1, -1, -1, -1, -1), 20 * i);
        }
        for (int n = 940; n > 920; n--) {
            Check.due("end", z.end(n), true);
            Check.due("feed at " + n, z.feed(0, 0, 0, 0, 0), -1);
            Check.due("none come", z.count(4), n);
        }
        Check.due("end", z.end(920), true);
        Check.due("feed at 920", z.feed(0, 0, 0, 0, 0), 940);
        Check.due("feed at 940", z.feed(0, 0, 0, 0, 0), -1);
    }

    private static void promise3() {
        Check.says("3: The tape has its first n bytes alone: true; false, if it has not so many, or n is below 0");
        for (int n : ODD) {
            SecondHelpings x = new SecondHelpings();
            for (int i = 0; i < 13; i++) {
                x.feed(0, 0, 0, 0, 0);
            }
            boolean so = n >= 0 && n <= 260;
            Check.due("end(" + n + ") of 260", x.end(n), so);
            Check.due("count(4)", x.count(4), so ? n : 260);
            SecondHelpings y = new SecondHelpings();
            Check.due("end(" + n + ") of none", y.end(n), n == 0);
        }
        SecondHelpings z = new SecondHelpings();
        z.feed(0x646f6773, 0x20333b64, 0x6f677320, 0x343b2020, 0);
        Check.due("its first 7", z.end(7), true);
        Check.due("more come behind them", z.feed(0x6c617720, 0x6c656173, 0x743b2020, 0x20202020, 0x20202020), 27);
        Check.due("table", z.table(), 2);
        Check.due("dogs", z.count(3), 3);
        Check.due("law", z.count(2), 2);
    }

    private static void promise4() {
        Check.says("4: The tape (empty then, here and below) is the TABLE now; -1 less the place of a FAULT: it stays");
        SecondHelpings x = Check.at(TABLE);
        Check.due("empty then", x.count(4), 0);
        String before = Check.all(x);
        Check.due("a FAULT at 0", Check.table(x, "?"), -1);
        Check.due("a FAULT at 6", Check.table(x, "dogs 1"), -7);
        Check.due("a FAULT at 900", Check.table(x, " ".repeat(901)), -901);
        nothingChanged(x, before, 0);
        Check.due("no LINES", x.table(), 0);
        Check.due("count(0)", x.count(0), 0);
        Check.due("count(1)", x.count(1), 0);
    }

    private static void promise5() {
        Check.says("5: 0 without one and ahead of any; (a book() of -1000 leaves it)");
        SecondHelpings x = new SecondHelpings();
        Check.due("ahead of any", x.fault(), 0);
        Check.due("table", Check.table(x, "dogs 10;"), -6);
        Check.due("fault()", x.fault(), 2);
        for (int lives : new int[] {-1, 2, Integer.MIN_VALUE, Integer.MAX_VALUE}) {
            Check.due("book", x.book(lives), -1000);
            Check.due("fault()", x.fault(), 2);
        }
        Check.feed(x, 0, 0);
        x.eaters();
        x.left(0);
        x.undo();
        Check.due("other calls leave it", x.fault(), 2);
        Check.due("book", Check.book(x, "meal 1;", 0), -1);
        Check.due("fault()", x.fault(), 0);
        Check.due("sentence", Check.sentence(x, "of zoe"), -4);
        Check.due("fault()", x.fault(), 3);
        Check.due("table", Check.table(x, ""), 0);
        Check.due("fault()", x.fault(), 0);
        Check.due("sentence", Check.sentence(x, "not ".repeat(9)), -33);
        Check.due("fault()", x.fault(), 4);
        Check.due("sentence", Check.sentence(x, "dead"), 1);
        Check.due("fault()", x.fault(), 0);
        Check.due("book", Check.book(x, "?", 1), -2);
        Check.due("fault()", x.fault(), 1);
        Check.due("a BOOK that is WRONG has no FAULT", Check.book(x, "meal 60;meal 60;meal 60;meal 60;", 1), 3);
        Check.due("fault()", x.fault(), 0);
    }

    private static void promise6() {
        Check.says("6: NoSuchElementException: no such ones");
        SecondHelpings x = Check.at(TABLE);
        String before = Check.all(x);
        for (int p : ODD) {
            for (int what : ODD) {
                boolean such = isPerson(p) && what >= 0 && what <= 8;
                Check.due("person(" + p + ", " + what + ") throws", Check.noSuchPerson(x, p, what), !such);
            }
        }
        nothingChanged(x, before, 0);
        Check.says("6: 1 the parent (NONE), 2 dead (1, 0), 3 refuses (1, 0), 8 his children, as bits");
        Check.due("person(0, 1)", x.person(0, 1), -1);
        Check.due("person(1, 1)", x.person(1, 1), 0);
        Check.due("person(0, 8)", x.person(0, 8), 6);
        Check.due("person(1, 8)", x.person(1, 8), 0);
        x.refuse(1);
        x.die(2);
        int[] dead = {0, 0, 1};
        int[] refuses = {0, 1, 0};
        for (int p = 0; p < 3; p++) {
            Check.due("person(p, 2)", x.person(p, 2), dead[p]);
            Check.due("person(p, 3)", x.person(p, 3), refuses[p]);
        }
        SecondHelpings y = Check.at("person a 1;person b 1;person c 1;person d 1;person e 1;person f 1;person g 1 of a;");
        Check.due("the seventh", y.person(0, 8), 64);
        Check.due("the seventh", y.person(6, 1), 0);
    }

    private static void promise7() {
        Check.says("7: NONE: no such ones");
        SecondHelpings x = Check.at(TABLE);
        for (int p : ODD) {
            for (int d : ODD) {
                Check.due("plate(" + p + ", " + d + ")", x.plate(p, d) == -1, !isPerson(p) || !isDish(d));
            }
        }
        Check.due("none on it", x.plate(1, 1), 0);
    }

    private static void promise8() {
        Check.says("8: 1 by how many it spoils (0: not); NONE: no such ones");
        SecondHelpings x = Check.at(TABLE);
        for (int d : ODD) {
            for (int what : ODD) {
                Check.due("dish(" + d + ", " + what + ")", x.dish(d, what) == -1, !isDish(d) || what < 0 || what > 2);
            }
        }
        Check.due("spoils not", x.dish(0, 1), 0);
        Check.due("spoils", x.dish(1, 1), 2);
        Check.due("on all plates", x.dish(0, 2), 13);
        Check.due("on all plates", x.dish(1, 2), 12);
    }

    private static void promise9() {
        Check.says("9: NONE for another what");
        SecondHelpings x = Check.at(TABLE);
        for (int what : ODD) {
            Check.due("now(" + what + ")", x.now(what), what >= 0 && what <= 7 ? 0 : -1);
        }
    }

    private static void promise10() {
        Check.says("10: n (1 to 20); NONE: no such ones");
        SecondHelpings x = Check.at(TABLE);
        String before = Check.all(x);
        for (int p : ODD) {
            for (int d : ODD) {
                if (!isPerson(p) || !isDish(d)) {
                    Check.due("eat(" + p + ", " + d + ", 1)", x.eat(p, d, 1), -1);
                }
            }
        }
        for (int n : ODD) {
            if (n < 1 || n > 20) {
                Check.due("eat(0, 0, " + n + ")", x.eat(0, 0, n), -1);
            }
        }
        x.feed(0, 0, 0, 0, 0);
        nothingChanged(x, before, 20);
        Check.due("why not leaves all", x.eat(0, 0, 10), 2);
        Check.due("why not leaves all", x.eat(0, 0, 9), 3);
        nothingChanged(x, before, 20);
        Check.due("eat(0, 0, 1)", x.eat(0, 0, 1), 0);
        SecondHelpings y = Check.at("person a 20;dish x 1;plate a x 20;");
        Check.due("eat(0, 0, 20)", y.eat(0, 0, 20), 0);
        y.die(0);
        Check.due("a dead one, n not as told", y.eat(0, 0, 21), -1);
    }

    private static void promise11() {
        Check.says("11: n (1 to 40); NONE: no such ones");
        SecondHelpings x = Check.at(TABLE);
        String before = Check.all(x);
        for (int p : ODD) {
            for (int d : ODD) {
                if (!isPerson(p) || !isDish(d)) {
                    Check.due("serve(" + p + ", " + d + ", 1)", x.serve(p, d, 1), -1);
                }
            }
        }
        for (int n : ODD) {
            if (n < 1 || n > 40) {
                Check.due("serve(0, 0, " + n + ")", x.serve(0, 0, n), -1);
            }
        }
        Check.due("why not leaves all", x.serve(0, 0, 31), 2);
        nothingChanged(x, before, 0);
        Check.due("serve(0, 0, 1)", x.serve(0, 0, 1), 0);
        SecondHelpings y = Check.at("person a 1;dish x 40;");
        Check.due("serve(0, 0, 40)", y.serve(0, 0, 40), 0);
        y.die(0);
        Check.due("a dead one, n not as told", y.serve(0, 0, 41), -1);
    }

    private static void promises12To15() {
        Check.says("12 to 15: NONE: no such one");
        SecondHelpings x = Check.at(TABLE);
        String before = Check.all(x);
        for (int p : ODD) {
            if (!isPerson(p)) {
                Check.due("rise(" + p + ")", x.rise(p), -1);
                Check.due("refuse(" + p + ")", x.refuse(p), -1);
                Check.due("accept(" + p + ")", x.accept(p), -1);
                Check.due("die(" + p + ")", x.die(p), -1);
            }
        }
        Check.due("why not leaves all", x.accept(0), 2);
        nothingChanged(x, before, 0);
        for (int p = 0; p < PERSONS; p++) {
            Check.due("rise(" + p + ")", x.rise(p), 0);
            Check.due("refuse(" + p + ")", x.refuse(p), 0);
            Check.due("accept(" + p + ")", x.accept(p), 0);
        }
        for (int p = 0; p < PERSONS; p++) {
            Check.due("die(" + p + ")", x.die(p), 0);
        }
        before = Check.all(x);
        for (int p = 0; p < PERSONS; p++) {
            Check.due("rise(" + p + ")", x.rise(p), 1);
            Check.due("refuse(" + p + ")", x.refuse(p), 1);
            Check.due("accept(" + p + ")", x.accept(p), 1);
            Check.due("die(" + p + ")", x.die(p), 1);
        }
        Check.due("all stays", Check.all(x), before);
        Check.due("none of these was done", x.undo(), 7);
    }

    private static void promise16() {
        Check.says("16: n (1 to 60) MEALS go by: how many did; NONE: not as told");
        for (int n : ODD) {
            SecondHelpings x = Check.at(TABLE);
            boolean asTold = n >= 1 && n <= 60;
            Check.due("meals(" + n + ")", x.meals(n), asTold ? n : -1);
            Check.due("now(0)", x.now(0), asTold ? n : 0);
            Check.due("undo()", x.undo(), asTold ? 0 : -1);
        }
        SecondHelpings y = new SecondHelpings();
        for (int i = 0; i < 3; i++) {
            Check.due("meals(60), without PERSONS", y.meals(60), 60);
        }
        Check.due("20 are left", y.meals(60), 20);
        Check.due("none is left", y.meals(60), 0);
        Check.due("none is left", y.meals(1), 0);
        Check.due("not as told", y.meals(0), -1);
        Check.due("undo(), not of 0 MEALS", y.undo(), 3);
        Check.due("now(0)", y.now(0), 180);
    }

    private static void promise17() {
        Check.says("17: how many more can be (8 at most are kept); NONE: none is");
        for (int acts = 0; acts <= 20; acts++) {
            SecondHelpings x = Check.at("person a 1;dish x 99;");
            for (int i = 0; i < acts; i++) {
                Check.due("serve", x.serve(0, 0, 1), 0);
            }
            int kept = Math.min(acts, 8);
            for (int i = 1; i <= kept; i++) {
                Check.due("undo()", x.undo(), kept - i);
                Check.due("plate", x.plate(0, 0), acts - i);
            }
            Check.due("none is", x.undo(), -1);
            Check.due("plate", x.plate(0, 0), acts - kept);
        }
        Check.says("17: each sort of act, done");
        SecondHelpings x = Check.at(TABLE);
        String start = Check.all(x);
        String[] acts = {"eat", "serve", "rise", "refuse", "die", "meals", "drawn", "book"};
        for (String act : acts) {
            Check.due(act + " is done", done(x, act), true);
            Check.due(act + " changes something", Check.all(x).equals(start), false);
            Check.due(act + " is undone", x.undo(), 0);
            Check.due(act + " is undone", Check.all(x), start);
        }
        x.refuse(0);
        x.accept(0);
        Check.due("accept is undone", x.undo(), 1);
        Check.due("accept is undone", x.now(2), 1);
        x.undo();
        Check.says("17: what is not done is not undone");
        x.eat(0, 0, 20);
        x.serve(0, 0, 40);
        x.accept(0);
        x.meals(61);
        x.drawn(0, 0);
        Check.book(x, "meal 3;", 0);
        Check.book(x, "meal 3;?", 1);
        x.book(5);
        Check.sentence(x, "dead");
        x.image(0);
        x.order();
        x.seats();
        x.odds(0, 3, 3);
        Check.due("none is", x.undo(), -1);
        Check.due("all stays", Check.all(x), start);
        Check.says("17: a BOOK that was lived: as one");
        Check.due("book", Check.book(x, "meal 3;ann rises;bob dies;bob dies;", 1), 3);
        Check.due("undo()", x.undo(), 0);
        Check.due("all", Check.all(x), start);
        Check.due("the second again is none", x.undo(), -1);
        Check.says("17: the latest of all sorts, one behind the other");
        SecondHelpings y = Check.at(TABLE);
        String[] before = new String[acts.length];
        for (int i = 0; i < acts.length; i++) {
            String act = acts[(i + 5) % acts.length];
            before[i] = Check.all(y);
            Check.due(act + " is done", done(y, act), true);
        }
        for (int i = acts.length - 1; i >= 0; i--) {
            Check.due("undo()", y.undo(), i);
            Check.due("all", Check.all(y), before[i]);
        }
    }

    private static boolean done(SecondHelpings x, String act) {
        switch (act) {
            case "eat":
                return x.eat(0, 0, 2) == 0;
            case "serve":
                return x.serve(0, 0, 2) == 0;
            case "rise":
                return x.rise(0) == 0;
            case "refuse":
                return x.refuse(0) == 0;
            case "die":
                return x.die(0) == 0;
            case "meals":
                return x.meals(1) == 1;
            case "drawn":
                return x.drawn(1, 1) == 1;
            default:
                return Check.book(x, "cid dies;meal 1;", 1) == -1;
        }
    }

    private static void promises18And19() {
        Check.says("18: HEIR of a PERSON (dead or not); NONE: there is none, no such one");
        SecondHelpings x = Check.at(TABLE);
        for (int p : ODD) {
            Check.due("heir(" + p + ")", x.heir(p), isPerson(p) ? (p + 1) % 3 : -1);
        }
        Check.says("19: The k-th of his LINE (from 0); NONE: none such, no such one");
        for (int p : ODD) {
            for (int k : ODD) {
                boolean such = isPerson(p) && k >= 0 && k < 2;
                Check.due("line(" + p + ", " + k + ")", x.line(p, k), such ? (p + k + 1) % 3 : -1);
            }
        }
        x.die(1);
        Check.due("of a dead one", x.heir(1), 2);
        Check.due("of a dead one", x.line(1, 1), 0);
        x.die(2);
        Check.due("there is none", x.heir(0), -1);
        Check.due("none such", x.line(0, 0), -1);
        Check.due("of a dead one", x.heir(2), 0);
    }

    private static void promises20And21() {
        Check.says("21: Its k-th PERSON (from 0), by the latest order(); NONE: none such, or ahead of any");
        SecondHelpings x = Check.at(TABLE);
        for (int k : ODD) {
            Check.due("orderAt(" + k + "), ahead of any", x.orderAt(k), -1);
        }
        Check.due("order()", x.order(), 0);
        for (int k : ODD) {
            Check.due("orderAt(" + k + ")", x.orderAt(k) >= 0, k >= 0 && k < 3);
        }
        x.die(1);
        Check.due("the latest order() had three", x.orderAt(2) >= 0, true);
        x.order();
        Check.due("this one has two", x.orderAt(1), 2);
        Check.due("this one has two", x.orderAt(2), -1);
        SecondHelpings y = new SecondHelpings();
        Check.due("nobody", y.order(), 0);
        Check.due("nobody", y.orderAt(0), -1);
    }

    private static int eaters(SecondHelpings x, int... bytes) {
        Check.feed(x, bytes);
        int sets = x.eaters();
        Check.due("the tape is empty", x.count(4), 0);
        return sets;
    }

    private static void promises22To24() {
        Check.says("22: NONE: not as told, no such DISH");
        SecondHelpings x = Check.at(TABLE);
        Check.due("no bytes", eaters(x), -1);
        Check.due("one", eaters(x, 0), -1);
        Check.due("three", eaters(x, 0, 0, 0), -1);
        Check.due("twenty", eaters(x, new int[20]), -1);
        for (int d = 0; d < 256; d++) {
            Check.due("DISH " + d, eaters(x, d, 0) == -1, !isDish(d));
        }
        Check.says("23, 24: by the latest eaters() above 0; NONE ahead of any");
        SecondHelpings y = Check.at(TABLE);
        Check.due("surely(), ahead of any", y.surely(), -1);
        Check.due("ask(), ahead of any", y.ask(), -1);
        Check.due("0 sets", eaters(y, 0, 100), 0);
        Check.due("surely(), ahead of any above 0", y.surely(), -1);
        Check.due("ask(), ahead of any above 0", y.ask(), -1);
        Check.due("NONE", eaters(y, 2, 0), -1);
        Check.due("surely()", y.surely(), -1);
        Check.due("sets", eaters(y, 0, 13), 2);
        Check.due("surely()", y.surely(), 3);
        Check.due("ask()", y.ask(), 2);
        Check.due("0 sets", eaters(y, 0, 100), 0);
        Check.due("NONE", eaters(y, 2, 0), -1);
        Check.due("surely(), by the one above 0", y.surely(), 3);
        Check.due("ask(), by the one above 0", y.ask(), 2);
        Check.says("24: (as it was then); NONE: there were no PERSONS");
        y.die(2);
        y.rise(0);
        Check.due("as it was then", y.ask(), 2);
        Check.due("table", Check.table(y, "dish x 1;"), 1);
        Check.due("as it was then", y.ask(), 2);
        Check.due("as it was then", y.surely(), 3);
        Check.due("no PERSONS: the empty set", eaters(y, 0, 0), 1);
        Check.due("ask()", y.ask(), -1);
        Check.due("surely()", y.surely(), 0);
        Check.due("no PERSONS, 1 part", eaters(y, 0, 1), 0);
    }

    private static void promise25() {
        Check.says("25: NONE: he is none of them, no such ones");
        SecondHelpings x = Check.at(TABLE);
        for (int d : ODD) {
            for (int p : ODD) {
                Check.due("share(" + d + ", 7, " + p + ")", x.share(d, 7, p) == -1, !isDish(d) || !isPerson(p));
            }
        }
        for (int set : ODD) {
            for (int p = 0; p < PERSONS; p++) {
                boolean in = set >= 0 && set <= 7 && (set >> p & 1) == 1;
                Check.due("share(0, " + set + ", " + p + ")", x.share(0, set, p) == -1, !in);
            }
        }
    }

    private static void promise26() {
        Check.says("26: NONE: no such one");
        SecondHelpings x = Check.at(TABLE);
        for (int d : ODD) {
            Check.due("last(" + d + ")", x.last(d), isDish(d) ? d == 0 ? 1 : 3 : -1);
        }
    }

    private static void promises27And28() {
        Check.says("28: The k-th place (from 0), by the latest seats(); NONE: none such, or ahead of any");
        SecondHelpings x = Check.at(TABLE);
        for (int k : ODD) {
            Check.due("seatAt(" + k + "), ahead of any", x.seatAt(k), -1);
        }
        Check.due("seats()", x.seats(), 1);
        for (int k : ODD) {
            Check.due("seatAt(" + k + ")", x.seatAt(k), k >= 0 && k < 3 ? k : -1);
        }
        x.die(0);
        Check.due("the latest seats() had three", x.seatAt(2), 2);
        Check.due("seats()", x.seats(), 0);
        Check.due("this one has two", x.seatAt(0), 1);
        Check.due("this one has two", x.seatAt(2), -1);
    }

    private static int left(SecondHelpings x, int p, int... bytes) {
        Check.feed(x, bytes);
        int parts = x.left(p);
        Check.due("the tape is empty", x.count(4), 0);
        return parts;
    }

    private static void promise29() {
        Check.says("29: LEFT by the tape (1 to 7 bytes: PERSONS): NONE: not as told, no such one");
        SecondHelpings x = Check.at(TABLE);
        String before = Check.all(x);
        for (int n = 0; n <= 20; n++) {
            Check.due(n + " bytes", left(x, 1, new int[n]), n >= 1 && n <= 7 ? 4 + 13 : -1);
        }
        for (int q = 0; q < 256; q++) {
            Check.due("byte " + q, left(x, 0, q) == -1, !isPerson(q));
            Check.due("byte " + q + " behind others", left(x, 0, 1, 2, q) == -1, !isPerson(q));
        }
        for (int p : ODD) {
            Check.due("left(" + p + ")", left(x, p, 0) == -1, !isPerson(p));
        }
        nothingChanged(x, before, 0);
    }

    private static void promise30() {
        Check.says("30: NONE: they are no kin, no such ones");
        SecondHelpings x = Check.at(TABLE + "person dan 1;");
        for (int p : ODD) {
            for (int q : ODD) {
                boolean kin = isPerson(p) && isPerson(q) || p == 3 && q == 3;
                Check.due("kin(" + p + ", " + q + ")", x.kin(p, q) == -1, !kin);
            }
        }
    }

    private static void promise31() {
        Check.says("31: of those who live (of like ones the first); NONE: nobody lives");
        SecondHelpings x = Check.at("person a 2;person b 3;person c 3;person d 2;");
        Check.due("all alike", x.hungriest(), 0);
        x.meals(1);
        Check.due("of like ones the first", x.hungriest(), 1);
        x.die(1);
        Check.due("who lives", x.hungriest(), 2);
        x.die(2);
        Check.due("of like ones the first", x.hungriest(), 0);
        x.die(0);
        Check.due("who lives", x.hungriest(), 3);
        x.die(3);
        Check.due("nobody lives", x.hungriest(), -1);
        Check.due("nobody is there", new SecondHelpings().hungriest(), -1);
    }

    private static void promises32And33() {
        Check.says("32: NONE: no such one. 33: NONE: none such");
        SecondHelpings x = Check.at(TABLE);
        for (int i : ODD) {
            Check.due("byteAt(" + i + "), ahead of any", x.byteAt(i), -1);
        }
        for (int p : ODD) {
            Check.due("will(" + p + ")", x.will(p) == -1, !isPerson(p));
        }
        Check.due("will(0)", x.will(0), 20);
        for (int i : ODD) {
            Check.due("byteAt(" + i + ")", x.byteAt(i) == -1, i < 0 || i >= 20);
        }
        Check.due("byteAt(0)", x.byteAt(0), 'a');
        Check.due("byteAt(19)", x.byteAt(19), 'b');
        Check.due("will(3)", x.will(3), -1);
        Check.due("by the latest WILL", x.byteAt(19), 'b');
        Check.due("a shorter one", Check.willText(Check.at("person a 1;"), 0), "a leaves nothing");
        x.die(0);
        Check.due("it stays as it was", x.byteAt(11), '1');
        Check.due("will(0)", x.will(0), 18);
        Check.due("byteAt(17)", x.byteAt(17), 'g');
        Check.due("none of the longer one's", x.byteAt(18), -1);
    }

    private static void promise34() {
        Check.says("34: n (1 to 60) MEALS: how many went by; NONE: not as told, no PERSONS");
        for (int n : ODD) {
            SecondHelpings x = Check.at(TABLE);
            String before = Check.all(x);
            boolean asTold = n >= 1 && n <= 60;
            Check.due("drawn(" + n + ", 5)", x.drawn(n, 5), asTold ? n : -1);
            Check.due("now(0)", x.now(0), asTold ? n : 0);
            Check.due("undo()", x.undo(), asTold ? 0 : -1);
            Check.due("all", Check.all(x), before);
        }
        for (int seed : ODD) {
            Check.due("any seed", Check.at(TABLE).drawn(1, seed), 1);
        }
        Check.due("no PERSONS", Check.at("dish x 1;").drawn(1, 1), -1);
        SecondHelpings y = Check.at(TABLE);
        for (int i = 0; i < 3; i++) {
            y.meals(60);
        }
        Check.due("20 are left", y.drawn(21, 1), 20);
        String end = Check.all(y);
        Check.due("none is left", y.drawn(1, 1), 0);
        Check.due("nobody did anything", Check.all(y), end);
        Check.due("undo(), not of 0 MEALS", y.undo(), 3);
        Check.due("now(0)", y.now(0), 180);
        Check.says("34: the seed goes on from MEAL to MEAL, not from call to call");
        SecondHelpings one = Check.at(TABLE);
        SecondHelpings two = Check.at(TABLE);
        one.drawn(2, 9);
        two.drawn(1, 9);
        two.drawn(1, 9);
        Check.due("the same seed again is another run", Check.all(one).equals(Check.all(two)), false);
    }

    private static void promise35() {
        Check.says("35: Of n (1 to 30) seeds; NONE: no such ones");
        SecondHelpings x = Check.at(TABLE);
        String before = Check.all(x);
        for (int p : ODD) {
            Check.due("odds(" + p + ", 1, 0)", x.odds(p, 1, 0) == -1, !isPerson(p));
        }
        for (int n : ODD) {
            Check.due("odds(0, " + n + ", 0)", x.odds(0, n, 0) == -1, n < 1 || n > 30);
        }
        nothingChanged(x, before, 0);
        Check.says("35: seeds x, x and 1, ..: they wrap");
        int lived = 0;
        int seed = Integer.MAX_VALUE - 14;
        for (int i = 0; i < 30; i++) {
            lived += x.odds(0, 1, seed);
            seed++;
        }
        Check.due("30 at once", x.odds(0, 30, Integer.MAX_VALUE - 14), lived);
        Check.due("some die, some don't", lived > 0 && lived < 30, true);
        Check.says("35: behind 10 MEALS DRAWN from now on");
        for (int s = 0; s < 60; s++) {
            SecondHelpings y = Check.at(TABLE);
            int odds = y.odds(2, 1, s);
            y.drawn(10, s);
            Check.due("odds(2, 1, " + s + ")", odds, 1 - y.person(2, 2));
        }
        x.meals(60);
        x.meals(60);
        x.meals(60);
        x.meals(15);
        for (int s = 0; s < 40; s++) {
            int odds = x.odds(0, 1, s);
            Check.due("5 are left", x.drawn(10, s), 5);
            Check.due("odds", odds, 1 - x.person(0, 2));
            x.undo();
        }
        x.meals(5);
        Check.due("none is left: all live", x.odds(0, 30, 0), 30);
        x.die(0);
        Check.due("a dead one", x.odds(0, 30, 0), 0);
    }

    private static void promise36() {
        Check.says("36: NONE: none; -2 less the place of a FAULT; -1000: another lives (the tape stays)");
        SecondHelpings x = Check.at(TABLE);
        String before = Check.all(x);
        Check.feed(x, "ann dies;");
        for (int lives : ODD) {
            if (lives != 0 && lives != 1) {
                Check.due("book(" + lives + ")", x.book(lives), -1000);
            }
        }
        nothingChanged(x, before, 9);
        Check.due("judged", x.book(0), -1);
        Check.due("all staying as it is", Check.all(x), before);
        Check.due("empty then", x.count(4), 0);
        Check.due("a FAULT at 0", Check.book(x, "?", 1), -2);
        Check.due("a FAULT at 400", Check.book(x, " ".repeat(401), 1), -402);
        nothingChanged(x, before, 0);
        Check.says("36: lived as far as it is not WRONG: the LINE that is WRONG");
        Check.due("the first", Check.book(x, "ann accepts;meal 1;", 1), 0);
        Check.due("all", Check.all(x), before);
        Check.due("the last of 40", Check.book(x, "meal 1;".repeat(39) + "ann accepts;", 0), 39);
        Check.due("all", Check.all(x), before);
        Check.due("the third", Check.book(x, "meal 1;ann dies;ann dies;bob dies;", 1), 2);
        Check.due("now(0)", x.now(0), 1);
        Check.due("now(1)", x.now(1), 1);
    }

    private static void promise37() {
        Check.says("37: NONE: another what, or ahead of any");
        SecondHelpings x = Check.at(TABLE);
        for (int what : ODD) {
            Check.due("told(" + what + "), ahead of any", x.told(what), -1);
        }
        Check.book(x, "?", 1);
        x.book(2);
        Check.due("told(0), ahead of any without a FAULT", x.told(0), -1);
        Check.due("book", Check.book(x, "meal 2;cid dies;cid dies;", 0), 2);
        int[] due = {51, 2, 2, 4};
        for (int what : ODD) {
            Check.due("told(" + what + ")", x.told(what), what >= 0 && what < 4 ? due[what] : -1);
        }
        Check.book(x, "meal 1;meal 1;?", 1);
        x.book(2);
        x.meals(5);
        Check.table(x, "");
        for (int what = 0; what < 4; what++) {
            Check.due("of the latest without a FAULT", x.told(what), due[what]);
        }
        Check.due("book", x.book(0), -1);
        for (int what = 0; what < 4; what++) {
            Check.due("of an empty BOOK", x.told(what), 0);
        }
        Check.says("37: as for eating, 10 more as for serving, 20, 30, 40, 50; 61: fewer MEALS are left");
        String[] books = {"cid dies;cid eats pea 1;", "cid eats ham 1;", "ann eats ham 5;", "cid dies;cid served pea 1;",
            "cid served ham 31;", "cid dies;cid rises;", "cid rises;cid rises;", "cid dies;cid refuses;",
            "cid refuses;cid refuses;", "cid dies;cid accepts;", "cid accepts;", "cid dies;cid dies;",
            "meal 60;meal 60;meal 60;meal 20;meal 1;"};
        int[] why = {1, 2, 3, 11, 12, 21, 22, 31, 32, 41, 42, 51, 61};
        for (int i = 0; i < books.length; i++) {
            SecondHelpings y = Check.at(TABLE);
            Check.due("WRONG: " + books[i], Check.book(y, books[i], 0) >= 0, true);
            Check.due("told(0) of " + books[i], y.told(0), why[i]);
        }
        SecondHelpings z = Check.at(TABLE);
        z.meals(60);
        z.meals(60);
        z.meals(60);
        Check.due("20 are left", Check.book(z, "meal 20;", 0), -1);
        Check.due("told(2)", z.told(2), 200);
        Check.due("21 are not", Check.book(z, "meal 21;", 1), 0);
        Check.due("told(0)", z.told(0), 61);
        Check.due("told(2), none went", z.told(2), 180);
        Check.due("now(0)", z.now(0), 180);
    }

    private static void promise38() {
        Check.says("38: how many ONES (each not, bracket and other one); -1 less the place of a FAULT: it stays");
        SecondHelpings x = Check.at(TABLE);
        Check.due("one", Check.sentence(x, "dead"), 1);
        Check.due("not", Check.sentence(x, "not dead"), 2);
        Check.due("bracket", Check.sentence(x, "(dead)"), 2);
        Check.due("all", Check.sentence(x, "not(not dead or clean and(of ann or has ham))"), 8);
        Check.due("number>1", Check.sentence(x, "number>1"), 1);
        Check.due("a FAULT at 0", Check.sentence(x, ""), -1);
        Check.due("a FAULT at 200", Check.sentence(x, "dead" + " ".repeat(197)), -201);
        Check.due("a FAULT behind a good one", Check.sentence(x, "dead or number<1 or"), -20);
        Check.due("it stays", Check.saidBits(x), 4);
        Check.due("empty then", x.count(4), 0);
        SecondHelpings y = Check.at(TABLE);
        Check.due("a FAULT", Check.sentence(y, "dead or"), -8);
        Check.due("there is none yet", y.said(-1), -1);
    }

    private static void promise39() {
        Check.says("39: how many (k NONE), or the k-th. NONE: there is no SENTENCE, none such");
        SecondHelpings x = Check.at(TABLE);
        for (int k : ODD) {
            Check.due("said(" + k + "), no SENTENCE", x.said(k), -1);
        }
        Check.sentence(x, "not number=1");
        for (int k : ODD) {
            Check.due("said(" + k + ")", x.said(k), k == -1 ? 2 : k == 0 ? 0 : k == 1 ? 2 : -1);
        }
        Check.sentence(x, "dead");
        for (int k : ODD) {
            Check.due("said(" + k + "), of nobody", x.said(k), k == -1 ? 0 : -1);
        }
        Check.says("39: PERSONS, dead ones too");
        x.die(1);
        Check.due("said(-1)", x.said(-1), 1);
        Check.due("said(0)", x.said(0), 1);
    }

    private static void promise40() {
        Check.says("40: kept in place k (0, 1): true; false: no such one");
        SecondHelpings x = Check.at(TABLE);
        for (int k : ODD) {
            Check.due("image(" + k + ")", x.image(k), k == 0 || k == 1);
        }
        Check.says("40: each place by itself, the latest there");
        x.meals(1);
        x.image(1);
        x.meals(1);
        Check.due("restore(0)", x.restore(0), true);
        Check.due("now(0)", x.now(0), 0);
        Check.due("restore(1)", x.restore(1), true);
        Check.due("now(0)", x.now(0), 1);
        x.meals(4);
        x.image(0);
        Check.due("restore(1)", x.restore(1), true);
        Check.due("now(0)", x.now(0), 1);
        Check.due("restore(0)", x.restore(0), true);
        Check.due("now(0)", x.now(0), 5);
    }

    private static void promise41() {
        Check.says("41: false: no such one, or nothing is kept there");
        SecondHelpings x = Check.at(TABLE);
        x.meals(2);
        String before = Check.all(x);
        for (int k : ODD) {
            Check.due("restore(" + k + ")", x.restore(k), false);
        }
        Check.due("all stays", Check.all(x), before);
        x.image(0);
        Check.due("nothing is kept there", x.restore(1), false);
        Check.due("what can be undone stays", x.undo(), 0);
        Check.due("now(0)", x.now(0), 0);
        Check.says("41: (the tape, and what other calls told last, stays; nothing can be undone)");
        x.meals(1);
        Check.feed(x, "xyz");
        Check.due("restore(0)", x.restore(0), true);
        Check.due("all", Check.all(x), before);
        Check.due("the tape", x.count(4), 3);
        Check.due("nothing", x.undo(), -1);
        Check.says("41: a TABLE with fewer PERSONS, an empty one");
        SecondHelpings y = new SecondHelpings();
        y.image(1);
        Check.table(y, TABLE);
        Check.sentence(y, "dead");
        Check.due("fault", Check.table(y, "dogs 10;"), -6);
        y.die(0);
        Check.due("restore(1)", y.restore(1), true);
        Check.due("count(0)", y.count(0), 0);
        Check.due("now(1)", y.now(1), 0);
        Check.due("said(-1)", y.said(-1), -1);
        Check.due("fault() stays", y.fault(), 2);
    }

    private static void promise42() {
        Check.says("42: NONE for another what");
        SecondHelpings x = Check.at(TABLE);
        int[] due = {3, 2, 0, 1, 0};
        for (int what : ODD) {
            Check.due("count(" + what + ")", x.count(what), what >= 0 && what < 5 ? due[what] : -1);
        }
        for (int i = 1; i <= 47; i++) {
            x.feed(0, 0, 0, 0, 0);
            Check.due("count(4)", x.count(4), 20 * i);
        }
    }

    private static void atMost512Calls() {
        Check.says("An object is used for at most 512 calls after it has been made");
        SecondHelpings x = new SecondHelpings();
        x.feed(0x70657273, 0x6f6e2061, 0x2032303b, 0x64697368, 0x20782039);
        x.feed(0x39202020, 0x20202020, 0x20202020, 0x20202020, 0x2020203b);
        Check.due("table", x.table(), 2);
        for (int i = 0; i < 99; i++) {
            Check.due("serve", x.serve(0, 0, 1), 0);
        }
        Check.due("serve", x.serve(0, 0, 1), 2);
        for (int i = 0; i < 399; i++) {
            Check.due("refuse or accept", i % 2 == 0 ? x.refuse(0) : x.accept(0), 0);
        }
        for (int i = 7; i >= 0; i--) {
            Check.due("undo()", x.undo(), i);
        }
        Check.due("call 511", x.undo(), -1);
        Check.due("call 512", x.person(0, 7), 99);
    }
}
