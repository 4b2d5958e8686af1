/** Texts that are fine, and texts with a fault at a place that is marked. */
final class Texts {
    static final String MAIN = " func main ( ) { }";

    private Texts() {
    }

    /** The fault of a text must be this one, at the place of the mark ^ (which is taken out). */
    static void fault(int code, String marked) {
        int place = marked.indexOf('^');
        String text = marked.substring(0, place) + marked.substring(place + 1);
        ChanceWorks x = new ChanceWorks();
        Check.due("program() of " + marked, Check.program(x, text), -1 - place);
        Check.due("fault() of " + marked, x.fault(), code);
        Check.due("count(11) after " + marked, x.count(11), 0);
        Check.due("count(2) after " + marked, x.count(2), 0);
    }

    static void fine(int statements, String text) {
        ChanceWorks x = new ChanceWorks();
        Check.due("program() of " + text, Check.program(x, text), statements);
        Check.due("fault() of " + text, x.fault(), 0);
    }

    static String many(String text, int times) {
        return text.repeat(times);
    }

    /** So many items, each with a number of its own for every % of the form. */
    static String items(String form, int many) {
        StringBuilder all = new StringBuilder();
        for (int n = 0; n < many; n++) {
            all.append(form.replace("%", Integer.toString(n))).append(' ');
        }
        return all.toString();
    }
}
