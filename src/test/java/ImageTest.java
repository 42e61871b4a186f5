/** Promises 40 and 41: images. */
public final class ImageTest {
    private static final String TABLE = "person ann 6;person bob 3 of ann;dish ham 50;dish pea 7 spoils 1;"
            + "plate ann ham 5;plate ann pea 4;plate bob pea 2;dogs 2;law least;";

    public static void main(String[] args) {
        places();
        keptAndBack();
        whatStays();
        nothingUndone();
        Check.finish("ImageTest");
    }

    private static void places() {
        SecondHelpings x = new SecondHelpings();
        for (int k : new int[] {-1, 2, 3, Integer.MIN_VALUE, Integer.MAX_VALUE}) {
            Check.due("image(" + k + ")", x.image(k), false);
            Check.due("restore(" + k + ")", x.restore(k), false);
        }
        Check.due("restore(0)", x.restore(0), false);
        Check.due("restore(1)", x.restore(1), false);
        Check.due("image(1)", x.image(1), true);
        Check.due("restore(0)", x.restore(0), false);
        Check.due("restore(1)", x.restore(1), true);
        Check.due("another object", new SecondHelpings().restore(1), false);
    }

    private static void keptAndBack() {
        SecondHelpings x = new SecondHelpings();
        x.image(0);
        String empty = Check.all(x);
        Check.table(x, TABLE);
        x.eat(0, 0, 2);
        x.meals(1);
        x.refuse(1);
        x.rise(0);
        Check.sentence(x, "refused");
        x.image(1);
        String kept = Check.all(x);
        x.accept(1);
        x.die(0);
        x.drawn(9, 4);
        Check.sentence(x, "dead");
        Check.due("restore(1)", x.restore(1), true);
        Check.due("all", Check.all(x), kept);
        Check.due("the SENTENCE", Check.saidBits(x), 2);
        Check.due("names", Check.willText(x, 1), "bob leaves 1 to ann");
        Check.due("restore(0)", x.restore(0), true);
        Check.due("all", Check.all(x), empty);
        Check.due("no SENTENCE", x.said(-1), -1);
        Check.table(x, "person zoe 1;dish egg 1;");
        Check.due("restore(1)", x.restore(1), true);
        Check.due("all", Check.all(x), kept);
        Check.due("the SENTENCE", Check.saidBits(x), 2);
        Check.due("its NAMES", Check.book(x, "bob dies;ann served ham 1;", 1), -1);
        Check.due("again", x.restore(1), true);
        Check.due("all", Check.all(x), kept);
        // another image in the same place
        x.meals(5);
        kept = Check.all(x);
        x.image(1);
        x.meals(5);
        Check.due("restore(1)", x.restore(1), true);
        Check.due("all", Check.all(x), kept);
        Check.due("restore(0)", x.restore(0), true);
        Check.due("all", Check.all(x), empty);
    }

    private static void whatStays() {
        SecondHelpings x = Check.at(TABLE);
        x.image(0);
        x.die(1);
        x.order();
        x.seats();
        x.will(0);
        Check.feed(x, 0, 5);
        x.eaters();
        Check.book(x, "meal 1;ann refuses;ann refuses;", 1);
        Check.sentence(x, "zoe");
        Check.feed(x, "abc");
        String order = Check.row(x, false);
        String seats = Check.row(x, true);
        int ask = x.ask();
        Check.due("restore(0)", x.restore(0), true);
        Check.due("the tape", x.count(4), 3);
        Check.due("orderAt", Check.row(x, false), order);
        Check.due("orderAt", order, "0");
        Check.due("seatAt", Check.row(x, true), seats);
        Check.due("byteAt(0)", x.byteAt(0), 'a');
        Check.due("surely()", x.surely(), 1);
        Check.due("ask()", x.ask(), ask);
        Check.due("told(0)", x.told(0), 32);
        Check.due("told(3)", x.told(3), 2);
        Check.due("fault()", x.fault(), 1);
        Check.due("image(0)", x.image(0), true);
        Check.due("the tape", x.count(4), 3);
    }

    private static void nothingUndone() {
        SecondHelpings x = Check.at(TABLE);
        x.meals(1);
        x.meals(1);
        x.image(0);
        Check.due("restore(1)", x.restore(1), false);
        Check.due("undo(), an image leaves it", x.undo(), 1);
        Check.due("restore(0)", x.restore(0), true);
        Check.due("now(0)", x.now(0), 2);
        Check.due("undo()", x.undo(), -1);
        x.meals(1);
        Check.due("undo()", x.undo(), 0);
        Check.due("now(0)", x.now(0), 2);
    }
}
