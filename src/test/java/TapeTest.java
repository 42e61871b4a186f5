/** Promises 1 to 3 and 42: a new object, the tape, what is counted. */
public final class TapeTest {
    public static void main(String[] args) {
        newObject();
        feeding();
        ending();
        counting();
        Check.finish("TapeTest");
    }

    private static void newObject() {
        SecondHelpings x = new SecondHelpings();
        Check.due("NONE", SecondHelpings.NONE, -1);
        Check.due("all", Check.all(x), "0 0 0 0 0 0 0 0 0 0 0 0 ");
        Check.due("count(4)", x.count(4), 0);
        Check.due("fault()", x.fault(), 0);
        Check.due("said(-1)", x.said(-1), -1);
        Check.due("undo()", x.undo(), -1);
        Check.due("meals(3)", x.meals(3), 3);
        Check.due("another object", new SecondHelpings().now(0), 0);
    }

    private static void feeding() {
        SecondHelpings x = new SecondHelpings();
        for (int i = 1; i <= 47; i++) {
            Check.due("feed " + i, x.feed(0x20202020, 0x0a0a0a0a, 0x20202020, 0x20202020, 0x20202020), 20 * i);
        }
        Check.due("feed 48", x.feed(1, 2, 3, 4, 5), -1);
        Check.due("count(4)", x.count(4), 940);
        Check.due("end(921)", x.end(921), true);
        Check.due("feed at 921", x.feed(1, 2, 3, 4, 5), -1);
        Check.due("count(4)", x.count(4), 921);
        Check.due("end(920)", x.end(920), true);
        Check.due("feed at 920", x.feed(1, 2, 3, 4, 5), 940);

        // the highest byte first: the order of bytes decides what the text is
        SecondHelpings y = new SecondHelpings();
        Check.due("feed dogs 3;", y.feed(0x646f6773, 0x20333b20, 0x6c617720, 0x6c656173, 0x743b2020), 20);
        Check.due("table()", y.table(), 2);
        Check.due("count(2)", y.count(2), 2);
        Check.due("count(3)", y.count(3), 3);

        // bytes above 127, as numbers 0 to 255
        SecondHelpings z = Check.at("person a 20;person b 20;dish d 99;plate a d 40;");
        for (int i = 0; i < 5; i++) {
            Check.due("serve", z.serve(0, 0, 19), 0);
        }
        Check.due("die", z.die(0), 0);
        Check.due("plate", z.plate(1, 0), 135);
        Check.feed(z, 0, 135);
        Check.due("eaters()", z.eaters(), 2);
    }

    private static void ending() {
        SecondHelpings x = new SecondHelpings();
        Check.due("end(0)", x.end(0), true);
        Check.due("end(1)", x.end(1), false);
        Check.due("end(-1)", x.end(-1), false);
        Check.due("end(least)", x.end(Integer.MIN_VALUE), false);
        x.feed(0x646f6773, 0x20333b64, 0x6f677320, 0x3330303b, 0);
        Check.due("end(21)", x.end(21), false);
        Check.due("count(4)", x.count(4), 20);
        Check.due("end(20)", x.end(20), true);
        Check.due("end(7)", x.end(7), true);
        Check.due("count(4)", x.count(4), 7);
        Check.due("end(8)", x.end(8), false);
        Check.due("table()", x.table(), 1);
        Check.due("count(4)", x.count(4), 0);
        Check.due("count(3)", x.count(3), 3);
    }

    private static void counting() {
        SecondHelpings x = Check.at("person a 1;person b 2;person c 3;dish d 1;dish e 2;law child;dogs 9;");
        Check.due("count(0)", x.count(0), 3);
        Check.due("count(1)", x.count(1), 2);
        Check.due("count(2)", x.count(2), 1);
        Check.due("count(3)", x.count(3), 9);
        Check.due("count(4)", x.count(4), 0);
        Check.due("count(5)", x.count(5), -1);
        Check.due("count(-1)", x.count(-1), -1);
        Check.due("law next", Check.at("law next;").count(2), 0);
        Check.due("law least", Check.at("law least;").count(2), 2);
        Check.due("no law", Check.at("dogs 0;").count(2), 0);
        Check.feed(x, "abc");
        Check.due("count(4)", x.count(4), 3);
    }
}
