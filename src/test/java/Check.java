import java.nio.charset.StandardCharsets;
import java.util.NoSuchElementException;

/** What the tests share: feeding texts, and comparing answers with those that are due. */
final class Check {
    private static int wrong = 0;
    private static int right = 0;
    private static String sentence = "";

    private Check() {
    }

    /** The document's sentence that the answers from here on belong to: it is told with a wrong one. */
    static void says(String words) {
        sentence = " (" + words + ")";
    }

    static void due(String call, long got, long want) {
        if (got == want) {
            right++;
        } else {
            wrong++;
            System.out.println(call + " answered " + got + ", due is " + want + sentence);
        }
    }

    static void due(String call, boolean got, boolean want) {
        due(call, got ? 1 : 0, want ? 1 : 0);
    }

    static void due(String call, String got, String want) {
        if (got.equals(want)) {
            right++;
        } else {
            wrong++;
            System.out.println(call + " answered '" + got + "', due is '" + want + "'" + sentence);
        }
    }

    static void finish(String test) {
        System.out.println(test + ": " + right + " answers as due, " + wrong + " not");
        if (wrong != 0 || right == 0) {
            System.exit(1);
        }
    }

    /** The bytes come behind what is on the tape. */
    static void feed(SecondHelpings x, int... bytes) {
        int before = x.count(4);
        int[] padded = new int[(bytes.length + 19) / 20 * 20];
        System.arraycopy(bytes, 0, padded, 0, bytes.length);
        for (int i = 0; i < padded.length; i += 20) {
            x.feed(four(padded, i), four(padded, i + 4), four(padded, i + 8), four(padded, i + 12), four(padded, i + 16));
        }
        due("end", x.end(before + bytes.length), true);
    }

    static void feed(SecondHelpings x, String text) {
        byte[] bytes = text.getBytes(StandardCharsets.ISO_8859_1);
        int[] numbers = new int[bytes.length];
        for (int i = 0; i < bytes.length; i++) {
            numbers[i] = bytes[i] & 255;
        }
        feed(x, numbers);
    }

    private static int four(int[] bytes, int i) {
        return bytes[i] << 24 | bytes[i + 1] << 16 | bytes[i + 2] << 8 | bytes[i + 3];
    }

    static int table(SecondHelpings x, String text) {
        feed(x, text);
        return x.table();
    }

    static int book(SecondHelpings x, String text, int lives) {
        feed(x, text);
        return x.book(lives);
    }

    static int sentence(SecondHelpings x, String text) {
        feed(x, text);
        return x.sentence();
    }

    /** A TABLE with a FAULT, on a new object: its kind and place. */
    static void tableFault(String text, int kind, int place) {
        SecondHelpings x = new SecondHelpings();
        due("table of '" + text + "'", table(x, text), -1 - place);
        due("fault of '" + text + "'", x.fault(), kind);
    }

    /** A BOOK with a FAULT, at a TABLE that is told. */
    static void bookFault(String told, String text, int kind, int place) {
        SecondHelpings x = at(told);
        due("book of '" + text + "'", book(x, text, 0), -2 - place);
        due("fault of '" + text + "'", x.fault(), kind);
    }

    /** A SENTENCE with a FAULT, at a TABLE that is told. */
    static void sentenceFault(String told, String text, int kind, int place) {
        SecondHelpings x = at(told);
        due("sentence of '" + text + "'", sentence(x, text), -1 - place);
        due("fault of '" + text + "'", x.fault(), kind);
    }

    static SecondHelpings at(String text) {
        SecondHelpings x = new SecondHelpings();
        int lines = text.length() - text.replace(";", "").length();
        due("table of " + text, table(x, text), lines);
        return x;
    }

    /** The bits of those of whom the SENTENCE may be said. */
    static int saidBits(SecondHelpings x) {
        int bits = 0;
        for (int k = 0; k < x.said(SecondHelpings.NONE); k++) {
            bits |= 1 << x.said(k);
        }
        return bits;
    }

    static String willText(SecondHelpings x, int p) {
        StringBuilder text = new StringBuilder();
        int length = x.will(p);
        for (int i = 0; i < length; i++) {
            text.append((char) x.byteAt(i));
        }
        return text.toString();
    }

    static boolean noSuchPerson(SecondHelpings x, int p, int what) {
        try {
            x.person(p, what);
            return false;
        } catch (NoSuchElementException e) {
            return true;
        }
    }

    static String row(SecondHelpings x, boolean seats) {
        StringBuilder text = new StringBuilder();
        for (int k = 0; k < 8; k++) {
            int p = seats ? x.seatAt(k) : x.orderAt(k);
            if (p != SecondHelpings.NONE) {
                text.append(p);
            }
        }
        return text.toString();
    }

    /** All that is so, as one text. */
    static String all(SecondHelpings x) {
        StringBuilder text = new StringBuilder();
        for (int what = 0; what < 4; what++) {
            text.append(x.count(what)).append(' ');
        }
        for (int what = 0; what < 8; what++) {
            text.append(x.now(what)).append(' ');
        }
        for (int p = 0; p < x.count(0); p++) {
            text.append('|');
            for (int what = 0; what < 9; what++) {
                text.append(x.person(p, what)).append(' ');
            }
            for (int d = 0; d < x.count(1); d++) {
                text.append(x.plate(p, d)).append(',');
            }
        }
        for (int d = 0; d < x.count(1); d++) {
            text.append('/').append(x.dish(d, 0)).append(' ').append(x.dish(d, 1)).append(' ').append(x.dish(d, 2));
        }
        return text.toString();
    }
}
