/** Counts the answers that are not as due, and tells each with the sentence of the document that it breaks. */
final class Report {
    private static final int MOST_TOLD = 20;
    private static String sentence = "";
    private static int sentences = 0;
    private static int wrong = 0;

    private Report() {
    }

    /** What follows tests these words of the document. */
    static void sentence(String where, String words) {
        sentence = where + " \"" + words + "\"";
        sentences++;
    }

    static void wrong(String what) {
        wrong++;
        if (wrong <= MOST_TOLD) {
            System.out.println(sentence + "\n  " + what);
        }
    }

    static void end() {
        System.out.println(sentences + " sentences tested");
        System.out.println(wrong == 0 ? "all answers are as due" : wrong + " answers are not as due");
        if (wrong != 0) {
            System.exit(1);
        }
    }
}
