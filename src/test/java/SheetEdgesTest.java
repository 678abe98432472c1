/** Promises 2 to 6 at their edges. */
public final class SheetEdgesTest extends Edges {
    private static final int[] NO_SHEETS = {-1, 6, 7, LEAST, GREATEST};
    private static final int[] NO_SORTS = {-1, 4, LEAST, GREATEST};
    private static final int ABOVE = 1;
    private static final int ZERO = 2;
    private static final int BELOW = 3;

    public static void main(String[] args) {
        SheetEdgesTest test = new SheetEdgesTest();
        test.made();
        test.refusedToMake();
        test.lost();
        test.narrowed();
        test.refusedToWrite();
        test.looked();
        test.refusedToLook();
        test.copied();
        test.refusedToCopy();
        test.order();
        test.end(2, 6);
    }

    private void made() {
        sentence(2, "A SHEET is a row of n numbers, all 0, of a SORT: n");
        int[] sizes = {0, 1, 2, 255, 256};
        for (int s = 0; s < 6; s++) {
            for (int sort = 0; sort < 4; sort++) {
                QuestionBench b = new QuestionBench();
                for (int n : sizes) {
                    String sheet = "sheet(" + s + ", " + sort + ", " + n + ")";
                    due(sheet, b.sheet(s, sort, n), n);
                    due(sheet + ", its first", b.look(s, sort, 0), n > 0 ? ZERO : PLACE);
                    due(sheet + ", its last", b.look(s, sort, n - 1), n > 0 ? ZERO : PLACE);
                    due(sheet + ", behind its last", b.look(s, sort, n), PLACE);
                }
            }
        }
        QuestionBench b = new QuestionBench();
        b.sheet(0, 3, 256);
        for (int i = 0; i < 256; i++) {
            if (b.look(0, 3, i) != ZERO) due("number " + i + " of a full sheet", b.look(0, 3, i), ZERO);
        }
        b.write(0, 1, 7);
        b.sheet(0, 3, 2);
        due("a written one, made again smaller, is all 0", b.look(0, 3, 1), ZERO);
        b.write(0, 1, 7);
        b.sheet(0, 3, 2);
        due("made again alike, too", b.look(0, 3, 1), ZERO);
        b.write(0, 1, 7);
        b.sheet(0, 0, 256);
        due("made again of another sort, too", b.look(0, 0, 1), ZERO);
        due("it is of its old sort no more", b.look(0, 3, 1), SORT);
        b.sheet(1, 0, 2);
        b.write(1, 0, 7);
        b.sheet(0, 0, 2);
        due("another sheet is left alone", b.look(1, 0, 0), ABOVE);
    }

    private void refusedToMake() {
        sentence(2, "BAD: no such SHEET, SORT, or n is above 256");
        QuestionBench b = new QuestionBench();
        b.sheet(0, 1, 2);
        b.write(0, 1, -1);
        for (int s : NO_SHEETS) {
            due("sheet(" + s + ", 0, 1)", b.sheet(s, 0, 1), BAD);
        }
        for (int sort : NO_SORTS) {
            due("sheet(0, " + sort + ", 1)", b.sheet(0, sort, 1), BAD);
        }
        for (int n : new int[] {257, 258, 512, 65536, GREATEST}) {
            due("sheet(0, 0, " + n + ")", b.sheet(0, 0, n), BAD);
        }
        due("the sheet is of its sort and has its numbers", b.look(0, 1, 1), BELOW);
        due("and its size", b.write(0, 0, 0), 2);
        due("no sheet came of these", b.lose(1) + b.lose(2) + b.lose(3) + b.lose(4) + b.lose(5), 0);
        due("BAD is not counted", b.count(4), 0);
        sentence(2, "SIZE: n is below 0");
        for (int n : new int[] {-1, -2, -256, -257, LEAST}) {
            due("sheet(0, 0, " + n + ")", b.sheet(0, 0, n), SIZE);
            due("sheet(1, 0, " + n + ")", b.sheet(1, 0, n), SIZE);
        }
        due("the sheet is as it was", b.look(0, 1, 1), BELOW);
        due("a missing one is missing still", b.lose(1), 0);
        due("each is counted", b.count(4), 10);
    }

    private void lost() {
        sentence(3, "A SHEET is MISSING: 1 if it was there, else 0");
        QuestionBench b = new QuestionBench();
        for (int s = 0; s < 6; s++) {
            due("lose(" + s + ") of a new object", b.lose(s), 0);
            b.sheet(s, s % 4, s == 0 ? 0 : 256);
            due("lose(" + s + ")", b.lose(s), 1);
            due("lose(" + s + ") again", b.lose(s), 0);
            due("it is missing", b.write(s, 0, 1), NOTHING);
        }
        b.sheet(1, 0, 1);
        b.sheet(2, 0, 1);
        b.lose(1);
        due("the next one is there", b.look(2, 0, 0), ZERO);
        sentence(3, "BAD: no such SHEET");
        for (int s : NO_SHEETS) {
            due("lose(" + s + ")", b.lose(s), BAD);
        }
        due("a sheet is there still", b.lose(2), 1);
    }

    private void narrowed() {
        sentence(4, "Number i of a SHEET becomes v, narrowed to its SORT: its size");
        for (int sort = 0; sort < 3; sort++) {
            long half = 1L << (8 << sort) - 1;
            QuestionBench b = new QuestionBench();
            long[] above = {1, half - 1, -half - 1, 2 * half + 1, -2 * half + 1, 1 - 4 * half};
            long[] zero = {0, 2 * half, -2 * half, 4 * half, Long.MIN_VALUE};
            long[] below = {-1, -half, half, 2 * half - 1, half + 1, -2 * half - 1, Long.MAX_VALUE};
            b.sheet(0, sort, 3);
            dueSigns(b, sort, above, ABOVE);
            dueSigns(b, sort, zero, ZERO);
            dueSigns(b, sort, below, BELOW);
        }
        QuestionBench b = new QuestionBench();
        b.sheet(0, 3, 3);
        dueSigns(b, 3, new long[] {1, Long.MAX_VALUE, 1L << 32, 1L << 62}, ABOVE);
        dueSigns(b, 3, new long[] {0, Long.MAX_VALUE + 1 + Long.MIN_VALUE}, ZERO);
        dueSigns(b, 3, new long[] {-1, Long.MIN_VALUE, -1L << 32}, BELOW);
        for (int n : new int[] {1, 2, 255, 256}) {
            b.sheet(1, 2, n);
            due("write to the first of " + n, b.write(1, 0, 1), n);
            due("write to the last of " + n, b.write(1, n - 1, 1), n);
            due("it is written", b.look(1, 2, n - 1), ABOVE);
            due("the one ahead of it", b.look(1, 2, n - 2), n == 1 ? PLACE : n == 2 ? ABOVE : ZERO);
        }
    }

    private void dueSigns(QuestionBench b, int sort, long[] values, int want) {
        for (long v : values) {
            due("write(0, 1, " + v + ")", b.write(0, 1, v), 3);
            due("look by sort " + sort + " at " + v, b.look(0, sort, 1), want);
        }
        due("those beside it", b.look(0, sort, 0) * 10 + b.look(0, sort, 2), 22);
    }

    private void refusedToWrite() {
        QuestionBench b = new QuestionBench();
        b.sheet(0, 0, 2);
        b.sheet(1, 0, 0);
        sentence(4, "BAD: no such SHEET");
        for (int s : NO_SHEETS) {
            due("write(" + s + ", 0, 1)", b.write(s, 0, 1), BAD);
        }
        sentence(4, "NOTHING: it is MISSING");
        due("write to one that never was", b.write(5, 0, 1), NOTHING);
        b.sheet(4, 0, 1);
        b.lose(4);
        due("write to a lost one", b.write(4, 0, 1), NOTHING);
        due("it is missing still", b.lose(4), 0);
        sentence(4, "PLACE: it has none such");
        for (int i : new int[] {-1, 2, 3, 256, LEAST, GREATEST}) {
            due("write(0, " + i + ", 1)", b.write(0, i, 1), PLACE);
        }
        due("write to an empty one", b.write(1, 0, 1), PLACE);
        due("write ahead of an empty one", b.write(1, -1, 1), PLACE);
        due("nothing was written", b.look(0, 0, 0) * 10 + b.look(0, 0, 1), 22);
        due("met", b.count(4), 10);
    }

    private void looked() {
        sentence(5, "how it stands to 0: 1 above, 2 it is 0, 3 below");
        for (int sort = 0; sort < 4; sort++) {
            QuestionBench b = new QuestionBench();
            b.sheet(0, sort, 256);
            b.write(0, 0, 1);
            b.write(0, 255, -1);
            due("the first by sort " + sort, b.look(0, sort, 0), ABOVE);
            due("the second by sort " + sort, b.look(0, sort, 1), ZERO);
            due("the last by sort " + sort, b.look(0, sort, 255), BELOW);
            due("no look changed it", b.look(0, sort, 0), ABOVE);
        }
    }

    private void refusedToLook() {
        QuestionBench b = new QuestionBench();
        for (int sort = 0; sort < 4; sort++) {
            b.sheet(sort, sort, 2);
        }
        sentence(5, "BAD: no such SHEET, SORT");
        for (int s : NO_SHEETS) {
            due("look(" + s + ", 0, 0)", b.look(s, 0, 0), BAD);
        }
        for (int sort : NO_SORTS) {
            due("look(0, " + sort + ", 0)", b.look(0, sort, 0), BAD);
        }
        due("none is counted", b.count(4), 0);
        sentence(5, "NOTHING");
        due("look at one that never was", b.look(5, 0, 0), NOTHING);
        b.sheet(5, 0, 1);
        b.lose(5);
        due("look at a lost one", b.look(5, 0, 0), NOTHING);
        sentence(5, "SORT: it is of another one");
        for (int s = 0; s < 4; s++) {
            for (int sort = 0; sort < 4; sort++) {
                due("look at sort " + s + " by " + sort, b.look(s, sort, 0), s == sort ? ZERO : SORT);
            }
        }
        sentence(5, "PLACE");
        for (int i : new int[] {-1, 2, 256, LEAST, GREATEST}) {
            due("look(0, 0, " + i + ")", b.look(0, 0, i), PLACE);
        }
        b.sheet(4, 0, 0);
        due("look at an empty one", b.look(4, 0, 0), PLACE);
        due("met", b.count(4), 2 + 12 + 6);
    }

    /** Tells numbers by their places apart: only one of them is above, one below. */
    private void dueRow(String call, QuestionBench b, int s, String want) {
        StringBuilder row = new StringBuilder();
        for (int i = 0; i < want.length(); i++) {
            row.append("?+0-".charAt(b.look(s, 2, i)));
        }
        due(call + " made " + row + " where " + want + " is due: alike", want.contentEquals(row) ? 1 : 0, 1);
    }

    private static QuestionBench rows() {
        QuestionBench b = new QuestionBench();
        b.sheet(0, 2, 4);
        b.write(0, 0, 5);
        b.write(0, 3, -5);
        b.sheet(1, 2, 3);
        return b;
    }

    private void copied() {
        sentence(6, "come to SHEET t from another one on (as they are ahead of this): n");
        QuestionBench b = rows();
        due("copy up in itself", b.copy(0, 0, 0, 1, 3), 3);
        dueRow("copy up in itself", b, 0, "++00");
        b = rows();
        due("copy down in itself", b.copy(0, 1, 0, 0, 3), 3);
        dueRow("copy down in itself", b, 0, "00--");
        due("copy onto itself", b.copy(0, 0, 0, 0, 4), 4);
        dueRow("copy onto itself", b, 0, "00--");
        b = rows();
        due("copy of all that t has room for", b.copy(0, 1, 1, 0, 3), 3);
        dueRow("copy", b, 1, "00-");
        dueRow("the source of the copy", b, 0, "+00-");
        due("copy of the last to the last", b.copy(0, 3, 1, 2, 1), 1);
        due("copy of the first to the first", b.copy(0, 0, 1, 0, 1), 1);
        dueRow("copies of one", b, 1, "+0-");
        due("copy of none", b.copy(0, 0, 1, 0, 0), 0);
        due("copy of none from the end to the end", b.copy(0, 4, 1, 3, 0), 0);
        dueRow("copies of none", b, 1, "+0-");
        b.sheet(2, 2, 0);
        due("copy of none between empty ones", b.copy(2, 0, 2, 0, 0), 0);
        for (int sort = 0; sort < 4; sort++) {
            b.sheet(3, sort, 256);
            b.write(3, 255, 1);
            b.sheet(4, sort, 256);
            due("copy of a full sheet", b.copy(3, 0, 4, 0, 256), 256);
            due("its last number", b.look(4, sort, 255), ABOVE);
            b.write(3, 255, -1);
            due("a later write does not come over", b.look(4, sort, 255), ABOVE);
        }
    }

    private void refusedToCopy() {
        QuestionBench b = rows();
        sentence(6, "BAD: no such SHEETS");
        for (int s : NO_SHEETS) {
            due("copy from " + s, b.copy(s, 0, 0, 0, 1), BAD);
            due("copy to " + s, b.copy(0, 0, s, 0, 1), BAD);
        }
        sentence(6, "NOTHING: one is MISSING");
        due("the source", b.copy(5, 0, 0, 0, 0), NOTHING);
        due("the target", b.copy(0, 0, 5, 0, 0), NOTHING);
        due("both", b.copy(5, 0, 5, 0, 0), NOTHING);
        due("each counts once", b.count(4), 3);
        due("the target is missing still", b.lose(5), 0);
        sentence(6, "SORT: they are of unlike ones");
        for (int sort = 0; sort < 4; sort++) {
            b.sheet(2, sort, 4);
            due("ints to sort " + sort, b.copy(0, 0, 2, 0, 0), sort == 2 ? 0 : SORT);
            due("sort " + sort + " to ints", b.copy(2, 0, 0, 0, 0), sort == 2 ? 0 : SORT);
        }
        sentence(6, "PLACE: one of from, to, n is below 0, or a SHEET has not so many");
        int[][] wrong = {
            {-1, 0, 1}, {0, -1, 1}, {0, 0, -1}, {-1, 0, 0}, {0, -1, 0}, {LEAST, 0, 1}, {0, LEAST, 1}, {0, 0, LEAST},
            {4, 0, 1}, {5, 0, 0}, {2, 0, 3}, {0, 3, 1}, {0, 4, 0}, {0, 1, 3}, {0, 0, 4}, {0, 0, 5}, {0, 0, GREATEST},
            {1, 0, GREATEST}, {0, 1, GREATEST}, {GREATEST, 0, 1}, {0, GREATEST, 1}, {GREATEST, 0, GREATEST},
            {GREATEST, GREATEST, GREATEST}, {GREATEST, 0, 0}, {LEAST, LEAST, LEAST}, {5, 0, -1}, {2, 2, -2}
        };
        for (int[] w : wrong) {
            due("copy(0, " + w[0] + ", 1, " + w[1] + ", " + w[2] + ")", b.copy(0, w[0], 1, w[1], w[2]), PLACE);
        }
        dueRow("all these", b, 0, "+00-");
        dueRow("all these", b, 1, "000");
        due("met", b.count(4), 3 + 6 + wrong.length);
    }

    private void order() {
        sentence(TERMS, ORDER);
        QuestionBench b = rows();
        b.sheet(2, 0, 4);
        due("sheet: no SHEET, SIZE", b.sheet(6, 0, -1), BAD);
        due("sheet: no SORT, SIZE", b.sheet(0, 4, -1), BAD);
        due("write: MISSING, PLACE", b.write(5, -1, 1), NOTHING);
        due("look: no SORT, MISSING", b.look(5, 4, 0), BAD);
        due("look: no SORT, no PLACE", b.look(0, -1, 9), BAD);
        due("look: MISSING, SORT, PLACE", b.look(5, 3, 9), NOTHING);
        due("look: SORT, PLACE", b.look(0, 3, 9), SORT);
        due("copy: no SHEET, MISSING", b.copy(5, 0, 6, 0, 1), BAD);
        due("copy: MISSING, no SHEET", b.copy(-1, 0, 5, 0, 1), BAD);
        due("copy: no SHEET, PLACE", b.copy(0, -1, 6, 0, 1), BAD);
        due("copy: MISSING, PLACE", b.copy(0, -1, 5, 0, -1), NOTHING);
        due("copy: SORT, PLACE", b.copy(0, 0, 2, -1, 1), SORT);
        due("met by these", b.count(4), 5);
    }
}
