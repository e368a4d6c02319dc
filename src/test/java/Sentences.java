/**
 * A row of the document's sentences, each with the answers that would be others were it broken. A sentence for which
 * nothing was asked counts as wrong.
 */
final class Sentences {
    private String sentence = "";
    private int sentences = 0;
    private int answers = 0;
    private int answersOfIt = 0;
    private int wrong = 0;

    /** Begins a sentence: what is asked from here on is asked for it. */
    void say(String words) {
        closeSentence();
        sentence = words;
        sentences++;
        answersOfIt = 0;
    }

    void due(String call, long got, long want) {
        answers++;
        answersOfIt++;
        if (got != want) {
            wrong++;
            System.out.println(sentence + ": " + call + " answered " + got + ", due is " + want);
        }
    }

    void holds(String what, boolean so) {
        due(what, so ? 1 : 0, 1);
    }

    private void closeSentence() {
        if (sentences > 0 && answersOfIt == 0) {
            wrong++;
            System.out.println(sentence + ": nothing was asked");
        }
    }

    void end() {
        closeSentence();
        System.out.println(wrong == 0 ? sentences + " sentences hold, by " + answers + " answers" : wrong + " answers are not as due");
        if (wrong != 0) {
            System.exit(1);
        }
    }
}
