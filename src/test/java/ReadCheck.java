/** Texts that are read on a new object, each with the answer that is due. */
final class ReadCheck {
    private ReadCheck() {
    }

    /** Whatever comes of it, the text is empty then, and there is a script only if it was read. */
    static void isRead(Check check, String text, int want) {
        PrivateQueries x = new PrivateQueries(1, 2);
        check.due("read() of '" + text + "'", want, Check.read(x, text));
        check.due("signs behind '" + text + "'", 0, x.count(2));
        check.due("statements behind '" + text + "'", Math.max(want, 0), x.count(3) + x.count(4));
        check.due("no script behind '" + text + "'", want < 0, x.wants(0) == PrivateQueries.STATE);
    }

    /** The fault is where the ! stands, which is left out of the text. */
    static void fails(Check check, String marked) {
        int place = marked.indexOf('!');
        isRead(check, marked.substring(0, place) + marked.substring(place + 1), -1000 - place);
    }

    /** So many lets, from g on, with one comparison each. */
    static String lets(int howMany) {
        StringBuilder all = new StringBuilder();
        for (int i = 0; i < howMany; i++) {
            all.append("let ").append((char) ('g' + i)).append("=a=1;");
        }
        return all.toString();
    }
}
