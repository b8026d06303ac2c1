import java.io.IOException;
import java.nio.charset.StandardCharsets;
import java.nio.file.Files;
import java.nio.file.Path;
import java.util.ArrayList;
import java.util.List;

/** What the tests share: counting what is not as due, and feeding a text to a house. */
final class Checks {
    private static int wrong = 0;
    private static int made = 0;
    private static String document = "";
    private static String sentence = "";
    private static final List<String> SAID = new ArrayList<>();

    private Checks() {
    }

    /** Reads the document, so that what a test quotes can be held against it. */
    static void readDocument(String[] args) throws IOException {
        document = Files.readString(Path.of(args.length > 0 ? args[0] : ".", "../shared/DOC.md"));
    }

    /** What the document says and the calls behind this try. */
    static void says(String quote) {
        sentence = "";
        due("the document has: " + quote, document.contains(quote) ? 1 : 0, 1);
        sentence = "<" + (quote.length() > 60 ? quote.substring(0, 60) + " .." : quote) + "> ";
        SAID.add(quote);
    }

    /** Of each of some promises a sentence was quoted. */
    static void duePromises(int from, int to) {
        sentence = "";
        for (int n = from; n <= to; n++) {
            int begin = document.indexOf("## Promise " + n + ":");
            int end = document.indexOf(n < 40 ? "## Promise " + (n + 1) + ":" : "## Not promised");
            String text = begin < 0 || end < begin ? "" : document.substring(begin, end);
            due("promise " + n + " is quoted", SAID.stream().anyMatch(text::contains) ? 1 : 0, 1);
        }
    }

    static void due(String call, long got, long want) {
        made++;
        if (got != want) {
            wrong++;
            if (wrong <= 50) {
                System.out.print(sentence);
                System.out.println((call.length() > 300 ? call.substring(0, 300) + " .." : call) + " answered " + got + ", due is " + want);
            }
        }
    }

    /** Each number of a row is what a call answers for 0, 1, .. */
    interface Asked {
        int answer(int i);
    }

    static void dueRow(String call, Asked asked, long... want) {
        for (int i = 0; i < want.length; i++) {
            due(call + " [" + i + "]", asked.answer(i), want[i]);
        }
    }

    /** Feeds a text, with blanks behind it up to a multiple of 20 bytes. */
    static void feed(TestHouse x, String text) {
        byte[] bytes = text.getBytes(StandardCharsets.ISO_8859_1);
        int padded = (bytes.length + 19) / 20 * 20;
        byte[] all = new byte[padded];
        java.util.Arrays.fill(all, (byte) 32);
        System.arraycopy(bytes, 0, all, 0, bytes.length);
        feedBytes(x, all);
    }

    static void feedBytes(TestHouse x, byte[] all) {
        java.nio.ByteBuffer in = java.nio.ByteBuffer.wrap(all);
        while (in.remaining() >= 20) {
            x.feed(in.getInt(), in.getInt(), in.getInt(), in.getInt(), in.getInt());
        }
    }

    /** Feeds a text, byte for byte, and nothing behind it. */
    static void feedExactly(TestHouse x, String text) {
        feed(x, text);
        x.cut((20 - text.length() % 20) % 20);
    }

    static int parcel(TestHouse x, String text) {
        feed(x, text);
        return x.parcel();
    }

    static TestHouse house(String... texts) {
        TestHouse x = new TestHouse();
        for (String text : texts) {
            int before = x.count(0, 0);
            due("parcel of " + text, parcel(x, text), before);
        }
        return x;
    }

    /** A text that has a FAULT: which one, and where. */
    static void dueFault(String text, int fault, int place) {
        TestHouse x = new TestHouse();
        feedExactly(x, text);
        int answer = x.parcel();
        due("fault of " + text, x.fault(), fault);
        due("place of the fault of " + text, -10 - answer, place);
    }

    static void dueNoFault(String text) {
        TestHouse x = new TestHouse();
        feedExactly(x, text);
        due("parcel of " + text, x.parcel(), 0);
        due("fault of " + text, x.fault(), 0);
    }

    static void end(String what) {
        System.out.println(what + ": " + made + " answers, " + wrong + " not as due");
        if (wrong != 0) {
            System.exit(1);
        }
    }
}
