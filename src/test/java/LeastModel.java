import java.util.ArrayList;
import java.util.List;

/** The least machine of nodes, the first of which has the row without events; written as Support.machine does. */
final class LeastModel {
    private LeastModel() {
    }

    /** The least machine by a table of the pairs that can be told apart. */
    static String least(List<int[]> nexts, List<Boolean> ends) {
        int n = nexts.size();
        boolean[][] apart = new boolean[n][n];
        for (boolean more = true; more;) {
            more = false;
            for (int i = 0; i < n; i++) {
                for (int k = 0; k < i; k++) {
                    if (!apart[i][k] && differ(nexts, ends, apart, i, k)) {
                        apart[i][k] = true;
                        apart[k][i] = true;
                        more = true;
                    }
                }
            }
        }
        List<Integer> heads = new ArrayList<>(List.of(0));
        StringBuilder all = new StringBuilder();
        for (int s = 0; s < heads.size(); s++) {
            all.append(ends.get(heads.get(s)) ? "[end" : "[");
            for (int e = 0; e < 24; e++) {
                int to = nexts.get(heads.get(s))[e];
                if (to >= 0) {
                    int number = 0;
                    while (number < heads.size() && apart[heads.get(number)][to]) {
                        number++;
                    }
                    if (number == heads.size()) {
                        heads.add(to);
                    }
                    all.append(' ').append(e).append(':').append(number);
                }
            }
            all.append(']');
        }
        return heads.size() > 24 ? "full" : all.toString();
    }

    private static boolean differ(List<int[]> nexts, List<Boolean> ends, boolean[][] apart, int i, int k) {
        if (!ends.get(i).equals(ends.get(k))) {
            return true;
        }
        for (int e = 0; e < 24; e++) {
            int a = nexts.get(i)[e];
            int b = nexts.get(k)[e];
            if ((a < 0) != (b < 0) || (a >= 0 && apart[a][b])) {
                return true;
            }
        }
        return false;
    }
}
