/** Rows and traces as texts: "1 2 3, 4 5 6" and "R0 R1 W0 W1". */
final class Texts {
    private Texts() {
    }

    static void fill(BlindTables x, int t, String rows) {
        for (String row : rows.split(", ")) {
            String[] c = row.split(" ");
            boolean added = x.add(t, Integer.parseInt(c[0]), Integer.parseInt(c[1]), Integer.parseInt(c[2]));
            Check.due("add of " + row, added, true);
        }
    }

    static String result(BlindTables x, int rows) {
        StringBuilder text = new StringBuilder();
        for (int r = 0; r < rows; r++) {
            text.append(r == 0 ? "" : ", ").append(x.cell(r, 0));
            text.append(' ').append(x.cell(r, 1)).append(' ').append(x.cell(r, 2));
        }
        return text.toString();
    }

    static String access(int code) {
        return (code % 2 == 0 ? "R" : "W") + code / 2;
    }

    static String trace(BlindTables x) {
        StringBuilder text = new StringBuilder();
        for (int k = 0; k < x.length(); k++) {
            text.append(k == 0 ? "" : " ").append(access(x.access(k)));
        }
        return text.toString();
    }

    static String trace(DueTrace due) {
        StringBuilder text = new StringBuilder();
        for (int k = 0; k < due.length(); k++) {
            text.append(k == 0 ? "" : " ").append(access(due.get(k)));
        }
        return text.toString();
    }
}
