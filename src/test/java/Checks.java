import java.io.IOException;
import java.nio.file.Files;
import java.nio.file.Path;

/** Counts answers that are not as due and tells them. */
final class Checks {
    private static final Path DOCUMENT = Path.of("../shared/DOC.md");

    private int wrong;
    private int asked;
    private int promise;
    private String words = "";
    private int askedBefore;
    private int sentences;
    private String document;

    void due(int promise, String call, long got, long want) {
        asked++;
        if (got != want) {
            wrong++;
            System.out.println("promise " + promise + ": " + call + " answered " + got + ", due is " + want
                + (words.isEmpty() ? "" : " by \"" + words + "\""));
        }
    }

    /** From here on due(call, ..) asks what these words of the document say; they must stand there. */
    void by(int promise, String words) {
        endSentence();
        if (!document().contains(words)) {
            tell("the document doesn't say \"" + words + "\"");
        }
        this.promise = promise;
        this.words = words;
        askedBefore = asked;
        sentences++;
    }

    void due(String call, long got, long want) {
        due(promise, call, got, want);
    }

    void dueTrue(String what, boolean holds) {
        due(promise, what, holds ? 1 : 0, 1);
    }

    private void tell(String fault) {
        wrong++;
        System.out.println(fault);
    }

    private void endSentence() {
        if (sentences > 0 && asked == askedBefore) {
            tell("nothing is asked by \"" + words + "\"");
        }
    }

    private String document() {
        if (document == null) {
            try {
                document = Files.readString(DOCUMENT).replaceAll("\\s+", " ");
            } catch (IOException e) {
                document = "";
                tell("can't read " + DOCUMENT);
            }
        }
        return document;
    }

    static void feed(FlakeArms x, String text) {
        for (int i = 0; i < text.length(); i += 8) {
            int n = Math.min(8, text.length() - i);
            long eight = 0;
            for (int k = 0; k < n; k++) {
                eight |= (long) text.charAt(i + k) << (8 * k);
            }
            x.feed(eight, n);
        }
    }

    static int law(FlakeArms x, String text) {
        feed(x, text);
        return x.law();
    }

    void end() {
        endSentence();
        System.out.println((sentences > 0 ? sentences + " sentences, " : "") + asked + " answers, "
            + wrong + " not as due");
        if (wrong != 0 || asked == 0) {
            System.exit(1);
        }
    }
}
