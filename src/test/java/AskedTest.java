/** Promises 18 to 33: what is asked. */
public final class AskedTest {
    private static final String FAMILY = "person ann 6;person bob 3 of ann;person cid 5 of ann;person dan 2 of bob;person eve 4;"
            + "dish ham 50;dish pea 7;plate ann ham 5;plate ann pea 4;plate bob pea 2;plate dan ham 3;plate eve ham 2;";

    public static void main(String[] args) {
        heirsNext();
        heirsChild();
        heirsLeast();
        lines();
        orders();
        orderKept();
        eatersOf();
        asking();
        shares();
        lastPart();
        seating();
        leftBehind();
        kinship();
        hungriestOf();
        wills();
        Check.finish("AskedTest");
    }

    private static void heirsAre(SecondHelpings x, int... due) {
        for (int p = 0; p < due.length; p++) {
            Check.due("heir(" + p + ")", x.heir(p), due[p]);
        }
        Check.due("heir(-1)", x.heir(-1), -1);
        Check.due("heir beyond", x.heir(due.length), -1);
    }

    private static void heirsNext() {
        SecondHelpings x = Check.at(FAMILY);
        heirsAre(x, 1, 2, 3, 4, 0);
        x.refuse(1);
        x.die(3);
        heirsAre(x, 2, 2, 4, 4, 0);
        x.die(0);
        x.refuse(4);
        heirsAre(x, 2, 2, -1, 2, 2);
        x.die(2);
        heirsAre(x, -1, -1, -1, -1, -1);
        heirsAre(Check.at("person a 1;"), -1);
        heirsAre(new SecondHelpings());
    }

    private static void heirsChild() {
        SecondHelpings x = Check.at(FAMILY + "law child;");
        heirsAre(x, 1, 3, 3, 4, 0);
        x.refuse(1);
        heirsAre(x, 2, 3, 3, 4, 0);
        x.die(2);
        heirsAre(x, 3, 3, 3, 4, 0);
        x.die(3);
        heirsAre(x, 4, 4, 4, 4, 0);
        x.accept(1);
        heirsAre(x, 1, 4, 4, 4, 0);
    }

    private static void heirsLeast() {
        SecondHelpings x = Check.at(FAMILY + "law least;");
        heirsAre(x, 1, 0, 0, 0, 0);
        x.eat(0, 0, 3);
        x.eat(1, 1, 2);
        x.serve(2, 1, 3);
        x.eat(2, 1, 3);
        x.eat(3, 0, 1);
        x.eat(4, 0, 1);
        heirsAre(x, 3, 3, 3, 4, 3);
        x.meals(1);
        heirsAre(x, 3, 3, 3, 4, 3);
        x.refuse(3);
        x.die(4);
        heirsAre(x, 1, 0, 1, 1, 1);
    }

    private static void lineIs(SecondHelpings x, int p, int... due) {
        for (int k = 0; k < due.length; k++) {
            Check.due("line(" + p + ", " + k + ")", x.line(p, k), due[k]);
        }
        Check.due("line at its end", x.line(p, due.length), -1);
        Check.due("line(p, -1)", x.line(p, -1), -1);
        Check.due("line(p, greatest)", x.line(p, Integer.MAX_VALUE), -1);
        Check.due("line(p, least)", x.line(p, Integer.MIN_VALUE), -1);
    }

    private static void lines() {
        SecondHelpings x = Check.at(FAMILY);
        lineIs(x, 2, 3, 4, 0, 1);
        x.refuse(4);
        x.die(2);
        lineIs(x, 2, 3, 0, 1);
        SecondHelpings y = Check.at(FAMILY + "law child;");
        lineIs(y, 1, 3, 2, 4, 0);
        lineIs(y, 0, 1, 2, 3, 4);
        y.die(3);
        lineIs(y, 1, 2, 4, 0);
        SecondHelpings z = Check.at(FAMILY + "law least;");
        z.eat(0, 0, 2);
        z.eat(3, 0, 1);
        z.eat(1, 1, 1);
        lineIs(z, 2, 4, 1, 3, 0);
        Check.due("all stays", z.now(2), 0);
        Check.due("line(-1, 0)", x.line(-1, 0), -1);
        Check.due("line(5, 0)", x.line(5, 0), -1);
    }

    private static void orderIs(SecondHelpings x, int wanted, String row) {
        String before = Check.all(x);
        Check.due("order()", x.order(), wanted);
        Check.due("its row", Check.row(x, false), row);
        Check.due("all stays", Check.all(x), before);
    }

    private static void orders() {
        orderIs(Check.at("person a 5;person b 5;dish d 0;plate a d 10;"), 0, "01");
        orderIs(Check.at("person a 5;person b 5;dish d 0;plate b d 10;"), 0, "10");
        orderIs(Check.at("person a 5;person b 5;dish d 0;plate b d 10;dogs 2;"), 2, "10");
        // nobody wants more than he has: of like ones the first
        orderIs(Check.at("person a 0;person b 2;person c 1;dish d 0;plate b d 2;plate c d 1;"), 0, "012");
        // c's 9 go on to a, then a's to b: c ahead of a ahead of b
        orderIs(Check.at("person a 3;person b 3;person c 3;dish d 0;plate c d 9;"), 0, "201");
        // law child: c eats 1, d 3, a 3; b has the 2 that are left
        orderIs(Check.at("person a 3;person b 3;person c 1;person d 3 of c;dish e 0;plate c e 9;law child;"), 1, "2301");
        // law least: b ate already, so a's parts go on to c first, and c's to b
        SecondHelpings x = Check.at("person a 2;person b 4;person c 2;dish d 0;plate a d 6;plate b d 1;law least;");
        Check.due("eat", x.eat(1, 0, 1), 0);
        orderIs(x, 1, "021");
        // who refuses has nothing passed on, but passes his own
        SecondHelpings y = Check.at("person a 2;person b 2;person c 2;dish d 0;plate b d 6;");
        y.refuse(0);
        Check.due("refused", y.now(2), 1);
        orderIs(y, 2, "012");
        // the dead are in no order; what was eaten at this MEAL counts
        SecondHelpings z = Check.at("person a 2;person b 2;person c 4;dish d 0;plate b d 3;plate c d 4;");
        z.die(0);
        z.eat(2, 0, 1);
        orderIs(z, 0, "12");
        z.die(1);
        z.die(2);
        orderIs(z, 0, "");
    }

    private static void orderKept() {
        SecondHelpings x = new SecondHelpings();
        Check.due("orderAt(0), ahead of any", x.orderAt(0), -1);
        Check.due("seatAt(0), ahead of any", x.seatAt(0), -1);
        Check.table(x, "person a 5;person b 5;dish d 0;plate b d 10;");
        Check.due("order()", x.order(), 0);
        x.die(1);
        x.meals(1);
        Check.due("by the latest order()", Check.row(x, false), "10");
        Check.due("table", Check.table(x, ""), 0);
        Check.due("by the latest order()", Check.row(x, false), "10");
        Check.due("orderAt(-1)", x.orderAt(-1), -1);
        Check.due("orderAt(2)", x.orderAt(2), -1);
        Check.due("orderAt(least)", x.orderAt(Integer.MIN_VALUE), -1);
        Check.due("orderAt(greatest)", x.orderAt(Integer.MAX_VALUE), -1);
    }

    private static int eaters(SecondHelpings x, int... bytes) {
        Check.feed(x, bytes);
        int sets = x.eaters();
        Check.due("the tape is empty", x.count(4), 0);
        return sets;
    }

    private static void eatersOf() {
        // ham: 5 0 0 3 2
        SecondHelpings x = Check.at(FAMILY);
        Check.due("surely()", x.surely(), -1);
        Check.due("ask()", x.ask(), -1);
        Check.due("5 or 3 and 2, with bob, cid or not", eaters(x, 0, 5), 8);
        Check.due("surely()", x.surely(), 0);
        Check.due("3", eaters(x, 0, 3), 4);
        Check.due("surely()", x.surely(), 8);
        Check.due("8 with ann, dan", eaters(x, 0, 8), 4);
        Check.due("surely()", x.surely(), 9);
        Check.due("11", eaters(x, 0, 11), 0);
        Check.due("surely(), by the latest above 0", x.surely(), 9);
        Check.due("ask(), by the latest above 0", x.ask(), 1);
        Check.due("0: sets of those who have none, the empty one too", eaters(x, 0, 0), 4);
        Check.due("surely()", x.surely(), 0);
        Check.due("peas", eaters(x, 1, 6), 8);
        Check.due("surely()", x.surely(), 3);
        Check.due("no such DISH", eaters(x, 2, 0), -1);
        Check.due("no such DISH", eaters(x, 255, 0), -1);
        Check.due("one byte", eaters(x, 0), -1);
        Check.due("no byte", eaters(x), -1);
        Check.due("three bytes", eaters(x, 0, 5, 0), -1);
        Check.due("surely()", x.surely(), 3);
        x.die(0);
        // the dead are in sets, too: ham 0 5 0 3 2
        Check.due("5", eaters(x, 0, 5), 8);
        Check.due("0", eaters(x, 0, 0), 4);
        SecondHelpings y = Check.at("dish ham 3;");
        Check.due("no PERSONS", eaters(y, 0, 0), 1);
        Check.due("surely()", y.surely(), 0);
        Check.due("ask()", y.ask(), -1);
        Check.due("no PERSONS", eaters(y, 0, 1), 0);
    }

    private static void asking() {
        // sets with 4: a alone; b and c; b and d
        SecondHelpings x = Check.at("person a 1;person b 1;person c 1;person d 1;dish e 0;plate a e 4;plate b e 3;plate c e 1;plate d e 1;");
        Check.due("eaters", eaters(x, 0, 4), 3);
        Check.due("ask: 1, 2, 1, 1 of 3 are as near", x.ask(), 0);
        // sets with 5: a, c; a, d; b, c, d without a: 4 and 1; 4 and 1; 3 and 1 and 1
        Check.due("eaters", eaters(x, 0, 5), 3);
        Check.due("ask: 2, 1, 2, 2 of 3 are as near", x.ask(), 0);
        // 9: all of them
        Check.due("eaters", eaters(x, 0, 9), 1);
        Check.due("ask: all in the one set", x.ask(), 0);
        // a in each, b and c in half of them
        SecondHelpings y = Check.at("person a 1;person b 1;person c 1;dish e 0;plate a e 4;plate b e 1;plate c e 1;");
        Check.due("eaters", eaters(y, 0, 5), 2);
        Check.due("ask", y.ask(), 1);
        y.die(1);
        Check.table(y, "dish z 1;");
        Check.due("as it was then", y.ask(), 1);
        Check.due("as it was then", y.surely(), 1);
    }

    private static void shares() {
        // 50 by 6 3 5 2 4: of 20: 15, 7.5, 12.5, 5, 10: the one left goes to bob, of like ones the first
        SecondHelpings x = Check.at(FAMILY);
        int[] due = {15, 8, 12, 5, 10};
        for (int p = 0; p < 5; p++) {
            Check.due("share(0, 31, p)", x.share(0, 31, p), due[p]);
        }
        // 7 by 3 5 2: of 10: 2.1, 3.5, 1.4
        Check.due("share(1, 14, 1)", x.share(1, 14, 1), 2);
        Check.due("share(1, 14, 2)", x.share(1, 14, 2), 4);
        Check.due("share(1, 14, 3)", x.share(1, 14, 3), 1);
        // 7 by 6 3 4: of 13: 3 (3), 1 (8), 2 (2): bob has the one left
        Check.due("share(1, 19, 0)", x.share(1, 19, 0), 3);
        Check.due("share(1, 19, 1)", x.share(1, 19, 1), 2);
        Check.due("share(1, 19, 4)", x.share(1, 19, 4), 2);
        Check.due("all alone", x.share(1, 8, 3), 7);
        Check.due("none of them", x.share(1, 14, 0), -1);
        Check.due("nobody", x.share(1, 0, 0), -1);
        Check.due("no such DISH", x.share(2, 31, 0), -1);
        Check.due("no such DISH", x.share(-1, 31, 0), -1);
        Check.due("no such one", x.share(0, 31, 5), -1);
        Check.due("no such one", x.share(0, 31, -1), -1);
        Check.due("no such ones", x.share(0, 63, 0), -1);
        Check.due("no such ones", x.share(0, -1, 0), -1);
        Check.due("no such ones", x.share(0, Integer.MIN_VALUE | 1, 0), -1);
        x.serve(0, 1, 5);
        x.die(3);
        Check.due("what is left in it, the dead ones too", x.share(1, 8, 3), 2);
        SecondHelpings y = Check.at("person a 0;person b 0;dish d 9;");
        Check.due("nobody WANTS any", y.share(0, 3, 0), 0);
        Check.due("nobody WANTS any", y.share(0, 3, 1), 0);
        // 2 among three alike: the first two
        SecondHelpings z = Check.at("person a 1;person b 1;person c 1;person e 0;dish d 2;");
        Check.due("share", z.share(0, 15, 0), 1);
        Check.due("share", z.share(0, 15, 1), 1);
        Check.due("share", z.share(0, 15, 2), 0);
        Check.due("share", z.share(0, 15, 3), 0);
    }

    private static void lastPart() {
        int[] due = {0, 0, 1, 2, 3, 0, 1, 2, 3, 0};
        for (int parts = 0; parts < 10; parts++) {
            Check.due("last of " + parts, Check.at("dish d " + parts + ";").last(0), due[parts]);
        }
        Check.due("last of 99", Check.at("dish d 99;").last(0), 2);
        SecondHelpings x = Check.at("person a 1;dish d 6;dish e 8;");
        Check.due("last(1)", x.last(1), 3);
        x.serve(0, 1, 1);
        Check.due("what is left in it", x.last(1), 2);
        Check.due("last(-1)", x.last(-1), -1);
        Check.due("last(2)", x.last(2), -1);
    }

    private static void seatsAre(SecondHelpings x, int pairs, String row) {
        Check.due("seats()", x.seats(), pairs);
        Check.due("its row", Check.row(x, true), row);
        Check.due("seatAt(-1)", x.seatAt(-1), -1);
        Check.due("seatAt beyond", x.seatAt(row.length()), -1);
    }

    private static void seating() {
        // ann bob cid(ann) dan(bob) eve: ann bob dan, cid, eve
        SecondHelpings x = Check.at(FAMILY);
        seatsAre(x, 2, "01324");
        x.die(1);
        seatsAre(x, 1, "0234");
        x.die(2);
        seatsAre(x, 0, "034");
        String kept = Check.row(x, true);
        x.die(0);
        x.die(3);
        x.die(4);
        Check.due("by the latest seats()", Check.row(x, true), kept);
        seatsAre(x, 0, "");
        seatsAre(Check.at("person a 1;person b 1;person c 1 of b;person d 1 of a;"), 2, "0312");
        // a's children are b and c, b's is d: a b d c, or a c b d: the first
        seatsAre(Check.at("person a 1;person b 1 of a;person c 1 of a;person d 1 of b;"), 2, "0132");
        // c is a's, d is b's and e is c's: a c e b d
        seatsAre(Check.at("person a 1;person b 1;person c 1 of a;person d 1 of b;person e 1 of c;"), 3, "02413");
        // f is no kin: it may sit ahead of none of its betters, but behind a's row
        seatsAre(Check.at("person f 1;person a 1;person b 1 of a;"), 1, "012");
        seatsAre(Check.at("person a 1;person f 1;person b 1 of a;"), 1, "021");
        seatsAre(new SecondHelpings(), 0, "");
    }

    private static int left(SecondHelpings x, int p, int... bytes) {
        Check.feed(x, bytes);
        String before = Check.all(x);
        int parts = x.left(p);
        Check.due("the tape is empty", x.count(4), 0);
        Check.due("all stays", Check.all(x), before);
        return parts;
    }

    private static void leftBehind() {
        SecondHelpings x = Check.at(FAMILY + "dogs 1;");
        Check.due("ann's 9 less 1, bob's 2", left(x, 1, 0), 10);
        Check.due("bob's 2 less 1", left(x, 2, 1, 0), 1 + 8);
        Check.due("ann's 8 and bob's 2, less 1", left(x, 2, 0, 1), 9);
        Check.due("who is dead has none", left(x, 0, 0), 0);
        Check.due("told twice", left(x, 1, 0, 0), 10);
        Check.due("all", left(x, 4, 0, 1, 2, 3, 4), 0);
        Check.due("7 bytes", left(x, 3, 0, 1, 0, 1, 0, 1, 2), 11);
        Check.due("8 bytes", left(x, 3, 0, 1, 0, 1, 0, 1, 2, 2), -1);
        Check.due("no bytes", left(x, 3), -1);
        Check.due("no such one on the tape", left(x, 3, 0, 5), -1);
        Check.due("no such one on the tape", left(x, 3, 200), -1);
        Check.due("no such one", left(x, 5, 0), -1);
        Check.due("no such one", left(x, -1, 0), -1);
        x.die(0);
        Check.due("dead already", left(x, 1, 0), 10);
        Check.due("undo(), left is no act", x.undo(), 0);
    }

    private static void kinship() {
        SecondHelpings x = Check.at(FAMILY + "person fay 1 of dan;person gil 1 of eve;");
        int[][] due = {
            {0, 1, 1, 2, -1, 3, -1},
            {1, 0, 2, 1, -1, 2, -1},
            {1, 2, 0, 3, -1, 4, -1},
            {2, 1, 3, 0, -1, 1, -1},
            {-1, -1, -1, -1, 0, -1, 1},
            {3, 2, 4, 1, -1, 0, -1},
            {-1, -1, -1, -1, 1, -1, 0}};
        x.die(1);
        for (int p = -1; p <= 7; p++) {
            for (int q = -1; q <= 7; q++) {
                boolean such = p >= 0 && p < 7 && q >= 0 && q < 7;
                Check.due("kin(" + p + ", " + q + ")", x.kin(p, q), such ? due[p][q] : -1);
            }
        }
    }

    private static void hungriestOf() {
        SecondHelpings x = Check.at(FAMILY);
        Check.due("all alike", x.hungriest(), 0);
        x.eat(0, 0, 5);
        x.meals(1);
        Check.due("cid", x.hungriest(), 2);
        x.die(2);
        Check.due("eve", x.hungriest(), 4);
        x.die(4);
        Check.due("bob", x.hungriest(), 1);
        x.die(1);
        x.die(0);
        Check.due("dan", x.hungriest(), 3);
        x.die(3);
        Check.due("nobody lives", x.hungriest(), -1);
        Check.due("nobody", new SecondHelpings().hungriest(), -1);
    }

    private static void wills() {
        SecondHelpings x = Check.at("person ann 6;person robert 3;person margery 5;dish ham 99;plate ann ham 5;plate margery ham 40;");
        Check.due("byteAt(0)", x.byteAt(0), -1);
        Check.due("will(-1)", x.will(-1), -1);
        Check.due("will(3)", x.will(3), -1);
        Check.due("will", Check.willText(x, 0), "ann leaves 5 to robert");
        Check.due("will", Check.willText(x, 1), "robert leaves nothing");
        Check.due("will", Check.willText(x, 2), "margery leaves 40 to ann");
        Check.due("will(0)", x.will(0), 22);
        Check.due("byteAt(21)", x.byteAt(21), 't');
        Check.due("byteAt(22)", x.byteAt(22), -1);
        Check.due("byteAt(-1)", x.byteAt(-1), -1);
        Check.due("byteAt(greatest)", x.byteAt(Integer.MAX_VALUE), -1);
        Check.due("will(3)", x.will(3), -1);
        Check.due("the latest WILL", x.byteAt(21), 't');
        x.refuse(0);
        x.refuse(1);
        Check.due("will", Check.willText(x, 0), "ann leaves 5 to margery");
        Check.due("will", Check.willText(x, 2), "margery leaves 40 to nobody");
        Check.due("will", Check.willText(x, 1), "robert leaves nothing");
        x.die(2);
        Check.due("will", Check.willText(x, 1), "robert leaves nothing");
        Check.due("will", Check.willText(x, 2), "margery leaves nothing");
        x.accept(0);
        x.accept(1);
        x.serve(0, 0, 40);
        x.serve(0, 0, 40);
        x.serve(0, 0, 25);
        Check.due("will", Check.willText(x, 0), "ann leaves 110 to robert");
        Check.table(x, "person a 1;");
        Check.due("the latest WILL", x.byteAt(0), 'a');
        Check.due("the latest WILL", x.byteAt(23), 't');
    }
}
