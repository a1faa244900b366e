import java.util.ArrayList;
import java.util.Arrays;
import java.util.List;

/** Runs tests under the words of the document that they hold to; in the end every word must have had one. */
final class Sentences {
    interface CallOn {
        int answer(ConvexConduit x);
    }

    interface Network {
        ConvexConduit build();
    }

    private record Section(String heading, String text, boolean[] tested) {
    }

    private final Checks checks = new Checks();
    private final List<Section> sections = new ArrayList<>();
    private Section section;
    private String words = "";

    Sentences(String document) {
        for (String part : document.split("\n## ")) {
            int line = part.indexOf('\n');
            String text = part.substring(line + 1);
            sections.add(new Section(part.substring(0, line), text, new boolean[text.length()]));
        }
        section = sections.get(0);
    }

    /** The tests that follow are about this section; its line of code, if it has one, is FaceTest's. */
    void section(String heading) {
        words = "";
        for (Section each : sections) {
            if (each.heading.equals(heading)) {
                section = each;
                passOverCode();
                return;
            }
        }
        due("a section " + heading, 0, 1);
    }

    private void passOverCode() {
        int begin = section.text.indexOf('`');
        if (section.heading.startsWith("Promise") && begin >= 0) {
            Arrays.fill(section.tested, 0, section.text.indexOf('`', begin + 1), true);
        }
    }

    /** A test of its own for these words of the section. */
    void says(String quoted, Runnable test) {
        words = quoted;
        int at = section.text.indexOf(quoted);
        due("stands in the document", at >= 0 ? 1 : 0, 1);
        while (at >= 0) {
            Arrays.fill(section.tested, at, at + quoted.length(), true);
            at = section.text.indexOf(quoted, at + 1);
        }
        int before = checks.count();
        due("goes to its end", goesToItsEnd(test) ? 1 : 0, 1);
        due("has a test", checks.count() > before + 1 ? 1 : 0, 1);
    }

    /** An exception that is not due ends one test, and the others still tell what they find. */
    private boolean goesToItsEnd(Runnable test) {
        try {
            test.run();
            return true;
        } catch (RuntimeException e) {
            e.printStackTrace(System.out);
            return false;
        }
    }

    void due(String what, long got, long want) {
        checks.due(section.heading + " '" + words + "': " + what, got, want);
    }

    void same(String what, int[] got, int[] want) {
        due(what + ", how many answers", got.length, want.length);
        for (int i = 0; i < Math.min(got.length, want.length); i++) {
            due(what + ", answer " + i, got[i], want[i]);
        }
    }

    /** On a new object the call throws just this exception, and all answers are afterwards what they were. */
    void refuses(String what, Class<? extends RuntimeException> want, Network network, CallOn call) {
        ConvexConduit x = network.build();
        int[] before = Networks.answers(x);
        checks.refused(section.heading + " '" + words + "': " + what, want, () -> call.answer(x));
        same(what + ", then", Networks.answers(x), before);
    }

    /** Fails if a word of what the document asks has no test; the public face is FaceTest's. */
    void end(String test) {
        for (Section each : sections) {
            if (each.heading.equals("What it is") || each.heading.equals("Terms")
                || each.heading.startsWith("Promise")) {
                section = each;
                words = "";
                due("without a test: " + untested(each), untested(each).isEmpty() ? 1 : 0, 1);
            }
        }
        checks.end(test);
    }

    private static String untested(Section of) {
        StringBuilder left = new StringBuilder();
        for (int i = 0; i < of.tested.length; i++) {
            boolean isWord = Character.isLetterOrDigit(of.text.charAt(i));
            left.append(of.tested[i] || !isWord ? ' ' : of.text.charAt(i));
        }
        return left.toString().trim().replaceAll(" +", " ");
    }
}
