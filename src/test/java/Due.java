/** What the project's tests share: answers that are due, and pictures of a desk's cloth. */
final class Due {
    private int wrong = 0;

    void due(String call, long got, long want) {
        if (got != want) {
            wrong++;
            System.out.println(call + " answered " + got + ", due is " + want);
        }
    }

    void due(String call, String got, String want) {
        if (!got.equals(want)) {
            wrong++;
            System.out.println(call + " shows " + got + ", due is " + want);
        }
    }

    void isTrue(String what, boolean holds) {
        if (!holds) {
            wrong++;
            System.out.println("not so: " + what);
        }
    }

    int wrongCount() {
        return wrong;
    }

    void end() {
        System.out.println(wrong == 0 ? "all answers are as due" : wrong + " answers are not as due");
        if (wrong != 0) {
            System.exit(1);
        }
    }

    /** The wools of a layer (-1: what is seen), the rows parted by '/'. */
    static String picture(TapestryDesk x, int layer) {
        StringBuilder text = new StringBuilder();
        for (int r = 0; r < x.about(0); r++) {
            text.append(r == 0 ? "" : "/");
            for (int c = 0; c < x.about(1); c++) {
                text.append(x.at(r, c, layer));
            }
        }
        return text.toString();
    }

    static String selection(TapestryDesk x) {
        StringBuilder text = new StringBuilder();
        for (int r = 0; r < x.about(0); r++) {
            text.append(r == 0 ? "" : "/");
            for (int c = 0; c < x.about(1); c++) {
                text.append(x.isSelected(r, c));
            }
        }
        return text.toString();
    }

    /** A desk whose cloth is as the picture in layer 0, by one spot for each knot that has a wool. */
    static TapestryDesk desk(String picture) {
        TapestryDesk x = new TapestryDesk();
        String[] rows = picture.split("/");
        x.cloth(rows.length, rows[0].length());
        spots(x, picture);
        return x;
    }

    /** Spots on the layer in use; a '0' of the picture is left as it is. */
    static void spots(TapestryDesk x, String picture) {
        String[] rows = picture.split("/");
        for (int r = 0; r < rows.length; r++) {
            for (int c = 0; c < rows[r].length(); c++) {
                if (rows[r].charAt(c) != '0') {
                    x.run(0, r, c, 0, 0, rows[r].charAt(c) - '0');
                }
            }
        }
    }
}
