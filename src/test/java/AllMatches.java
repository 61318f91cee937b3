import java.util.ArrayList;
import java.util.List;

/** Every match of two short tunes, written out one by one; the steps in the document's order. */
final class AllMatches {
    private final int[][] unlike;
    private final int hold;
    private final int bound;
    private final int lastRow;
    private final int lastColumn;
    private final List<int[]> begun = new ArrayList<>();
    /** The best matches so far, each a row of pairs; the first found is the first of them. */
    final List<int[][]> best = new ArrayList<>();
    int cost = Integer.MAX_VALUE;

    /** The rows of pairs from the first notes to this pair. */
    AllMatches(int[][] unlike, int hold, int bound, int lastRow, int lastColumn) {
        this.unlike = unlike;
        this.hold = hold;
        this.bound = bound;
        this.lastRow = lastRow;
        this.lastColumn = lastColumn;
        goOn(0, 0, 0);
    }

    /** Asked once a pair, for an object is promised for 512 calls. */
    static int[][] tableOf(SlowTunes tunes) {
        int[][] unlike = new int[tunes.notes(0)][tunes.notes(1)];
        for (int row = 0; row < unlike.length; row++) {
            for (int column = 0; column < unlike[row].length; column++) {
                unlike[row][column] = tunes.unlike(row, column);
            }
        }
        return unlike;
    }

    private void goOn(int row, int column, int costBefore) {
        if (row > lastRow || column > lastColumn || Math.abs(row - column) > bound) {
            return;
        }
        int costHere = costBefore + unlike[row][column];
        begun.add(new int[] {row, column});
        if (row == lastRow && column == lastColumn) {
            end(costHere);
        }
        goOn(row + 1, column + 1, costHere);
        goOn(row + 1, column, costHere + hold);
        goOn(row, column + 1, costHere + hold);
        begun.remove(begun.size() - 1);
    }

    private void end(int costOfAll) {
        if (costOfAll < cost) {
            cost = costOfAll;
            best.clear();
        }
        if (costOfAll == cost) {
            best.add(begun.toArray(new int[0][]));
        }
    }
}
