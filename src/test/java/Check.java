import java.io.IOException;
import java.io.UncheckedIOException;
import java.nio.file.Files;
import java.nio.file.Path;
import java.util.Arrays;

/** Counts the answers that are not the ones that are due, and prints each of them. */
final class Check {
    private static final Path DOCUMENT = Path.of("../shared/DOC.md");
    private static final long LONGEST_MILLISECONDS = 300_000;

    private final String name;
    private String document = "";
    private volatile String sentence = "";
    private int made = 0;
    private int wrong = 0;

    Check(String name) {
        this.name = name;
        Thread watch = new Thread(this::endIfTooLong);
        watch.setDaemon(true);
        watch.start();
    }

    /** So that a call that does not end fails its test. */
    private void endIfTooLong() {
        try {
            Thread.sleep(LONGEST_MILLISECONDS);
        } catch (InterruptedException e) {
            return;
        }
        System.out.println(name + ": does not end" + sentence);
        System.exit(1);
    }

    /** What is looked at from here on is due by these words, which must stand in the document. */
    void by(String words) {
        sentence = " [" + words + "]";
        // Without the document the class can still be looked at.
        if (Files.exists(DOCUMENT)) {
            holds("the document says so", document().contains(words));
        }
    }

    private String document() {
        if (document.isEmpty()) {
            try {
                document = Files.readString(DOCUMENT).replaceAll("\\s+", " ");
            } catch (IOException e) {
                throw new UncheckedIOException(e);
            }
        }
        return document;
    }

    void due(String call, long got, long want) {
        made++;
        if (got != want) {
            wrong++;
            System.out.println(name + ": " + call + " answered " + got + ", due is " + want + sentence);
        }
    }

    void holds(String what, boolean so) {
        made++;
        if (!so) {
            wrong++;
            System.out.println(name + ": does not hold: " + what + sentence);
        }
    }

    void same(String what, String got, String want) {
        holds(what + " is " + want + ", not " + got, got.equals(want));
    }

    void tape(String when, ShrinkBench x, int... want) {
        same("the tape " + when, Kit.tapeOf(x), Arrays.toString(want));
    }

    boolean allRight() {
        return wrong == 0;
    }

    /** Ends the program, with exit code 1 if an answer was wrong or none was looked at. */
    void end() {
        System.out.println(name + ": " + made + " answers, " + wrong + " wrong");
        if (wrong != 0 || made == 0) {
            System.exit(1);
        }
    }
}
