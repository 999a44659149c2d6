/** All that can be seen of an object, as a text, so that two objects can be compared. */
public final class Picture {
    private Picture() {
    }

    /** The state, and what is counted beside it. It takes some 120 calls where there is the most. */
    public static String of(TryLoops x) {
        StringBuilder picture = new StringBuilder("cells");
        for (int cell = 0; cell < 30; cell++) {
            picture.append(' ').append(x.cell(cell));
        }
        picture.append(totals(x));
        for (int number = 0; number < x.total(2); number++) {
            picture.append("\ntry");
            addTry(picture, x, number, x.length(number, 0));
        }
        if (x.total(3) >= 0) {
            picture.append("\nopen");
            addTry(picture, x, x.total(2), x.total(3));
        }
        for (int loop = 0; loop < x.total(4); loop++) {
            picture.append("\nloop of turns ").append(x.length(loop, 2)).append(':');
            for (int step = 0; step < x.length(loop, 1); step++) {
                for (int what = 0; what < 3; what++) {
                    picture.append(' ').append(x.ofLoop(loop, step, what));
                }
            }
        }
        return picture.append('\n').toString();
    }

    private static String totals(TryLoops x) {
        StringBuilder totals = new StringBuilder("\ntotals");
        for (int what = 0; what < 12; what++) {
            totals.append(' ').append(x.total(what));
        }
        return totals.toString();
    }

    private static void addTry(StringBuilder picture, TryLoops x, int number, int steps) {
        for (int step = 0; step < steps; step++) {
            picture.append(' ').append(x.ofTry(number, step, 0)).append(':').append(x.ofTry(number, step, 1));
        }
    }

    /**
     * Also what the text, the history and the snapshot hold; the object is changed by it. Of the
     * earlier states it takes the totals alone: an object is used for at most 512 calls.
     */
    public static String ofAll(TryLoops x) {
        StringBuilder picture = new StringBuilder(of(x));
        for (int left = x.undo(); left >= 0; left = x.undo()) {
            picture.append("undone, left are ").append(left).append(totals(x));
        }
        picture.append("\nrestored ").append(x.restore()).append('\n').append(of(x));
        if (x.total(3) >= 0) {
            picture.append("ended ").append(x.end());
        }
        picture.append("\nperformed ").append(x.perform()).append(totals(x));
        return picture.toString();
    }
}
