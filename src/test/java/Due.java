import java.io.IOException;
import java.io.UncheckedIOException;
import java.nio.file.Files;
import java.nio.file.Path;
import java.nio.file.StandardOpenOption;
import java.util.ArrayList;
import java.util.Arrays;
import java.util.List;

/** What is due: prints every answer that is another, and counts them. */
final class Due {
    /** A call that may answer or throw. */
    interface Call {
        long answer();
    }

    /** A call without an answer that may throw. */
    interface Act {
        void run();
    }

    private static int wrong = 0;
    private static int looked = 0;
    private static final List<String> SENTENCES = new ArrayList<>();
    private static String sentence = "";

    private Due() {
    }

    /** A sentence of the document, or a part of one, in its own words, and the test of it. */
    static void sentence(String section, String words, Act test) {
        int before = looked;
        sentence = section + ", \"" + words + "\": ";
        SENTENCES.add(section + "\t" + words);
        try {
            test.run();
        } catch (RuntimeException e) {
            report("the test was ended by " + e);
        }
        if (looked == before) {
            report("nothing was looked at");
        }
        sentence = "";
    }

    private static void report(String text) {
        wrong++;
        System.out.println(sentence + text);
    }

    static void is(String what, long got, long want) {
        same(what, Long.toString(got), Long.toString(want));
    }

    static void same(String what, String got, String want) {
        looked++;
        if (!got.equals(want)) {
            report(what + " answered " + got + ", due is " + want);
        }
    }

    static void thrown(String what, Class<? extends RuntimeException> want, Act act) {
        looked++;
        String got = "nothing";
        try {
            act.run();
        } catch (RuntimeException e) {
            got = e.getClass().getName();
        }
        if (!got.equals(want.getName())) {
            report(what + " threw " + got + ", due is " + want.getName());
        }
    }

    static String answer(Call call) {
        try {
            return Long.toString(call.answer());
        } catch (RuntimeException e) {
            return "throws." + e.getClass().getSimpleName();
        }
    }

    static boolean anyWrong() {
        return wrong > 0;
    }

    static void finish(String test) {
        String of = SENTENCES.isEmpty() ? "" : " of " + SENTENCES.size() + " sentences";
        System.out.println(test + ": " + looked + " answers" + of + " looked at, " + wrong + " wrong");
        if (wrong > 0 || looked == 0) {
            System.exit(1);
        }
        noteSentences();
    }

    /** For Sentences, which looks at what all tests together have tested. */
    private static void noteSentences() {
        String place = System.getProperty("sentences");
        if (place != null) {
            try {
                Files.write(Path.of(place), SENTENCES, StandardOpenOption.CREATE, StandardOpenOption.APPEND);
            } catch (IOException e) {
                throw new UncheckedIOException(e);
            }
        }
    }

    /** The digest that the document describes, of keys and values by turns. */
    static long digest(byte[]... keysAndValues) {
        long sum = 7;
        for (byte[] row : keysAndValues) {
            sum = sum * 31 + row.length;
            for (byte cell : row) {
                sum = sum * 31 + (cell & 255);
            }
        }
        return sum;
    }

    static byte[] row(int length, int first) {
        byte[] row = new byte[length];
        Arrays.fill(row, (byte) first);
        return row;
    }
}
