/** Sentence by sentence, the edges of SHEETS: promises 29 to 35, and their part of ==== 3. */
public final class SheetEdgeTest extends Bench {
    /** Width 6 and the longest sheets, so that every limit is at its greatest. */
    private static final String WIDEST = "'s1,2,3,4,5,6,0,1,2,3,4=5,6,0,1,2,3'; matrix(); sheet(0, 1, 24);"
        + "sheet(3, 1, 24);";
    private static final String FILLED = "5,17,3,44,90,61,8,29,73,12,50'; matrix();";
    /** 2 1, 3 2 by 7, and an X of 1, 4 that makes 6, 4 between items that are none of its. */
    private static final String BETWEEN = "'s1,2,3'; matrix(); sheet(0, 2, 6); item(0, 2, 0, 50); item(0, 2, 1, 1);"
        + "item(0, 2, 2, 4); item(0, 2, 3, 60); item(0, 2, 4, -1); item(0, 2, 5, 70);";

    public static void main(String[] args) {
        SheetEdgeTest test = new SheetEdgeTest();
        test.refusals(29, "came", ")", 4);
        test.refusals(30, "apply", ")", 4);
        test.refusals(31, "film", ")", 2);
        test.refusals(34, "item", ", 5)", 1);
        test.widestRows();
        test.cameKinds();
        test.cameNoNumbers();
        test.applyItems();
        test.applyNoNumbers();
        test.filmWays();
        test.filmNone();
        test.sheets();
        test.drops();
        test.lowestBits();
        test.copies();
        test.copyRefusals();
        test.copyIndexes();
        test.copyOverItself();
        test.close();
    }

    /** All items of a sheet behind a script; -1 is what is no number by 97. */
    private void items(String script, int s, int lane, int... want) {
        for (int i = 0; i < want.length; i++) {
            due("item " + i + " of sheet " + s + " behind \"" + script + "\"",
                Look.itemAt(Script.ready(script), s, lane, i), want[i]);
        }
        due("items of sheet " + s + " behind \"" + script + "\"", Script.ready(script).drop(s), want.length);
    }

    private static String[] calls(String name, String end, String... places) {
        String[] made = new String[places.length];
        for (int c = 0; c < made.length; c++) {
            made[c] = name + "(" + places[c] + end;
        }
        return made;
    }

    /** What refuses calls of a sheet, a lane and an item, in the order in which the calls name it. */
    private void refusals(int promise, String name, String end, int needed) {
        says(promise, "sheets 0 .. 3. BAD");
        leaves(BUSY, BAD, calls(name, end, "-1, 0, 0", "4, 0, 0", "5, 2, 0", "LEAST, 0, 0", "MOST, 0, 0"));
        says(promise, "a LANE: 0 bytes, 1 shorts, 2 ints, 3 longs. BAD");
        leaves(BUSY, BAD, calls(name, end, "0, -1, 0", "0, 4, 0", "1, 5, 0", "0, LEAST, 0", "0, MOST, 0"));
        says(promise, "NULL");
        leaves(BUSY, NULL, calls(name, end, "3, 0, 0", "3, 1, 0", "3, 2, 0", "3, 3, 0"));
        says(promise, "CAST");
        leaves(BUSY, CAST, calls(name, end, "0, 1, 0", "0, 2, 0", "0, 3, 0", "1, 0, 0", "1, 1, 0", "1, 3, 0"));
        says(promise, "INDEX");
        int beyond = 5 - needed + 1;
        leaves(BUSY, INDEX, calls(name, end, "0, 0, -1", "0, 0, " + beyond, "0, 0, 5", "0, 0, 6", "0, 0, LEAST"));
        says(promise, "INDEX: a sum that would wrap around");
        leaves(BUSY, INDEX, calls(name, end, "0, 0, MOST", "0, 0, 2147483646", "1, 2, 2147483644", "1, 2, 2147483640"));
        says(promise, "INDEX: of a row of no items");
        leaves(BUSY, INDEX, calls(name, end, "2, 3, 0", "2, 3, -1", "2, 3, 1"));
        says(promise, "of several the first that the call names: BAD, NULL, CAST, INDEX");
        leaves(BUSY, BAD, calls(name, end, "3, 4, 0", "3, -1, -1", "0, 4, -1", "2, 4, 9", "4, 4, 99", "-1, 1, -1"));
        leaves(BUSY, NULL, calls(name, end, "3, 0, -1", "3, 3, 25", "3, 2, MOST"));
        leaves(BUSY, CAST, calls(name, end, "0, 1, -1", "0, 2, 99", "1, 3, LEAST", "2, 0, 0", "2, 2, MOST"));
        says(promise, "the first item, and the last one from which on there are enough");
        for (String call : calls(name, end, "0, 0, 0", "0, 0, " + (beyond - 1), "1, 2, 0")) {
            due(call + " is not refused", Script.ask(Script.ready(BUSY), call) >= 0 ? 1 : 0, 1);
        }
    }

    private void widestRows() {
        says(29, "2 times WIDTH items: 12 of 24");
        leaves(WIDEST, INDEX, "came(0, 1, 13)", "came(0, 1, 24)");
        leaves(WIDEST, 31, "came(0, 1, 12)", "came(0, 1, 0)");
        says(30, "WIDTH items, and the WIDTH items behind them: 12 of 24");
        leaves(WIDEST, INDEX, "apply(0, 1, 13)", "apply(0, 1, 18)");
        run(WIDEST + "item(0, 1, 12, 1); apply(0, 1, 12) = 1; came(0, 1, 12) = 29");
        says(31, "WIDTH items: 6 of 24");
        leaves(WIDEST, INDEX, "film(0, 1, 19)", "film(0, 1, 24)");
        run(WIDEST + "film(0, 1, 18) = 9; film(0, 1, 0) = 9");
        says(34, "Item i: 23 of 24");
        leaves(WIDEST, INDEX, "item(0, 1, 24, 1)", "item(0, 1, 25, 1)");
        run(WIDEST + "item(0, 1, 23, 1) = 1; came(0, 1, 12) = 0; item(0, 1, 23, 0) = 1; came(0, 1, 12) = 31");
    }

    private void cameKinds() {
        saysTerm(3, "KINDS (a set) of THE MATRIX by which it is so: none, all");
        run("'s1,2,3'; matrix(); sheet(0, 0, 4); came(0, 0, 0) = 31; item(0, 0, 3, 1); came(0, 0, 0) = 0");
        saysTerm(3, "KINDS: each alone");
        for (int kind = 0; kind < 5; kind++) {
            String x = "item(1, 3, 2, 9); item(1, 3, 4, 96); item(1, 3, 5, 1); item(1, 3, 7, 33);";
            run("prime(97); 's" + FILLED + "shape(" + kind + "); sheet(1, 3, 14); " + x + "apply(1, 3, 2) = 1;"
                + "came(1, 3, 2) = " + (1 << kind) + "; shape(" + (kind + 1) % 5 + "); came(1, 3, 2) = " + (1 << kind));
        }
        saysTerm(3, "X first, then THE RIGHT that comes of it");
        run("'s1,2,3'; matrix(); sheet(0, 0, 4); item(0, 0, 0, 1); item(0, 0, 2, 2); item(0, 0, 3, 3);"
            + "came(0, 0, 0) = 29;"
            + "item(0, 0, 0, 2); item(0, 0, 1, 3); item(0, 0, 2, 1); item(0, 0, 3, 0); came(0, 0, 0) = 0");
        says(29, "taken as a row of each LANE");
        for (int lane = 0; lane < 4; lane++) {
            String of = "(2, " + lane + ", ";
            run("prime(97); 's96'; matrix(); sheet" + of + "3); item" + of + "1, 96); item" + of + "2, 1); came" + of
                + "1) = 31; came" + of + "0) = 0");
        }
        says(29, "came changes nothing");
        leaves(BUSY, 0, "came(0, 0, 0)", "came(0, 0, 1)", "came(1, 2, 0)");
    }

    private void cameNoNumbers() {
        says(29, "what is no number fits none");
        String zeros = "'s0,0,0'; matrix(); sheet(0, 3, 4);";
        leaves(zeros, 31, "came(0, 3, 0)");
        for (int i = 0; i < 4; i++) {
            String[] none = {"-1", "7", "8", "14", "-7", "4294967296", "-9223372036854775808", "9223372036854775807"};
            for (String v : none) {
                run(zeros + "item(0, 3, " + i + ", " + v + "); came(0, 3, 0) = 0");
            }
            int most = i < 2 ? 31 : 0;
            run(zeros + "item(0, 3, " + i + ", 6); came(0, 3, 0) = " + most);
        }
        says(29, "a number is one by THE PRIME there is");
        run("'s1'; matrix(); sheet(0, 0, 2); item(0, 0, 0, 7); item(0, 0, 1, 7); came(0, 0, 0) = 0; prime(11);"
            + "came(0, 0, 0) = 31; prime(5); came(0, 0, 0) = 0");
    }

    private void applyItems() {
        says(30, "what comes of it comes to the WIDTH items behind them: 1");
        run(BETWEEN + "apply(0, 2, 1) = 1; came(0, 2, 1) = 1");
        items(BETWEEN + "apply(0, 2, 1)", 0, 2, 50, 1, 4, 6, 4, 70);
        items("sheet(1, 0, 2); item(1, 0, 0, 6); change(0, 6); apply(1, 0, 0)", 1, 0, 6, 1);
        items("prime(97); 's96'; matrix(); sheet(1, 0, 2); item(1, 0, 0, 1); apply(1, 0, 0)", 1, 0, 1, 96);
        says(30, "what comes of it, by the KIND there is");
        items(BETWEEN + "shape(1); apply(0, 2, 1)", 0, 2, 50, 1, 4, 2, 0, 70);
        items(BETWEEN + "shape(2); apply(0, 2, 1)", 0, 2, 50, 1, 4, 0, 4, 70);
        items(BETWEEN + "shape(4); apply(0, 2, 1)", 0, 2, 50, 1, 4, 4, 4, 70);
        says(30, "SHEETS alone are others then");
        run(BETWEEN + "turn(); apply(0, 2, 1); count(7) = 1; LINE = 3,2,1; RIGHT = 0,0; undo() = 0");
        says(30, "taken as a row of each LANE");
        for (int lane = 0; lane < 4; lane++) {
            String of = "(3, " + lane + ", ";
            items("prime(97); 's2'; matrix(); sheet" + of + "3); item" + of + "1, 48);"
                + "apply" + of + "1)", 3, lane, 0, 48, 96);
        }
    }

    private void applyNoNumbers() {
        says(30, "NOT: an item is no number");
        for (String v : new String[] {"7", "-1", "8", "-7", "2147483647", "-2147483648"}) {
            leaves(BETWEEN + "item(0, 2, 1, " + v + ");", NOT, "apply(0, 2, 1)");
            leaves(BETWEEN + "item(0, 2, 2, " + v + ");", NOT, "apply(0, 2, 1)");
        }
        leaves("sheet(0, 3, 2); item(0, 3, 0, 4294967296);", NOT, "apply(0, 3, 0)");
        says(30, "an item of the X: the ones behind it may be no numbers");
        run(BETWEEN + "item(0, 2, 3, -1); item(0, 2, 4, 99); apply(0, 2, 1) = 1; came(0, 2, 1) = 1");
        run(BETWEEN + "item(0, 2, 1, 6); item(0, 2, 2, 0); apply(0, 2, 1) = 1");
        says(30, "of several: INDEX ahead of NOT");
        leaves(BETWEEN, INDEX, "apply(0, 2, 3)", "apply(0, 2, 4)", "apply(0, 2, 5)");
        leaves(BETWEEN, NOT, "apply(0, 2, 2)", "apply(0, 2, 0)");
        leaves(BETWEEN, CAST, "apply(0, 1, 3)");
    }

    private void filmWays() {
        says(31, "WIDTH items become FIRST");
        String many = "'s2,1,4=3,5'; matrix(); sheet(1, 1, 5); item(1, 1, 0, 50); item(1, 1, 1, 60); item(1, 1, 2, -1);"
            + "item(1, 1, 3, 70);";
        run(many + "film(1, 1, 1) = 7");
        items(many + "film(1, 1, 1)", 1, 1, 50, 0, 5, 70, 0);
        items("prime(97); 's96=1'; matrix(); sheet(2, 0, 2); film(2, 0, 1)", 2, 0, 0, 96);
        says(31, "WAYS, 9 at most");
        run("change(0, 1); sheet(0, 0, 6); film(0, 0, 0) = 1");
        String sheet = "sheet(0, 0, 6);";
        run(sheet + "prime(2); film(0, 0, 0) = 2; prime(3); film(0, 0, 0) = 3; prime(7); film(0, 0, 0) = 7;"
            + "prime(11); film(0, 0, 0) = 9");
        run(sheet + "prime(2); 's0,0,0,0,0'; matrix(); film(0, 0, 0) = 8; widen(); film(0, 0, 0) = 9");
        run(sheet + "prime(3); 's0,0,0'; matrix(); film(0, 0, 0) = 9; prime(97); widen(); widen(); widen();"
            + "widen(); film(0, 0, 0) = 9");
        says(31, "SHEETS alone are others then");
        run(many + "turn(); turn(); film(1, 1, 1); count(7) = 2; LINE = 2,1,4; RIGHT = 3,5");
        says(31, "taken as a row of each LANE");
        for (int lane = 0; lane < 4; lane++) {
            items("'s1=6'; matrix(); sheet(0, " + lane + ", 2); film(0, " + lane + ", 1)", 0, lane, 0, 6);
        }
    }

    private void filmNone() {
        String unsolved = "'s2,1,4=4,5'; matrix(); sheet(0, 2, 3); item(0, 2, 1, 5); item(0, 2, 2, -1);";
        says(31, "NONE: there is none");
        leaves(unsolved, NONE, "film(0, 2, 0)", "film(0, 2, 1)");
        says(31, "of several: BAD, NULL, CAST, INDEX ahead of NONE");
        leaves(unsolved, BAD, "film(4, 2, 0)", "film(0, 4, 0)", "film(-1, 2, 0)", "film(0, -1, 0)");
        leaves(unsolved, NULL, "film(1, 2, 0)");
        leaves(unsolved, CAST, "film(0, 3, 0)");
        leaves(unsolved, INDEX, "film(0, 2, 2)", "film(0, 2, -1)", "film(0, 2, 3)");
    }

    private void sheets() {
        says(32, "sheets 0 .. 3. BAD");
        leaves(BUSY, BAD, "sheet(-1, 0, 1)", "sheet(4, 0, 1)", "sheet(LEAST, 0, 1)", "sheet(MOST, 0, 1)");
        says(32, "a LANE: 0 .. 3. BAD");
        leaves(BUSY, BAD, "sheet(0, -1, 1)", "sheet(0, 4, 1)", "sheet(3, LEAST, 1)", "sheet(3, MOST, 1)");
        says(32, "BAD: also n above 24");
        leaves(BUSY, BAD, "sheet(0, 0, 25)", "sheet(3, 3, 25)", "sheet(0, 0, 26)", "sheet(0, 0, MOST)");
        says(32, "SIZE: n below 0");
        leaves(BUSY, SIZE, "sheet(0, 0, -1)", "sheet(3, 3, -1)", "sheet(2, 1, LEAST)");
        says(32, "of several: BAD ahead of SIZE");
        leaves(BUSY, BAD, "sheet(-1, 0, -1)", "sheet(4, 0, -1)", "sheet(0, -1, -1)", "sheet(0, 4, LEAST)");
        says(32, "0 to 24 items: n");
        run("sheet(0, 0, 0) = 0; sheet(1, 1, 1) = 1; sheet(2, 2, 23) = 23; sheet(3, 3, 24) = 24; drop(0) = 0;"
            + "drop(1) = 1; drop(2) = 23; drop(3) = 24");
        says(32, "holds a new row: its items are 0, whatever it held");
        items("sheet(0, 0, 2); item(0, 0, 0, 5); item(0, 0, 1, 6); sheet(0, 0, 2)", 0, 0, 0, 0);
        items("sheet(0, 0, 1); item(0, 0, 0, 5); sheet(0, 0, 0); sheet(0, 0, 2)", 0, 0, 0, 0);
        items("sheet(0, 0, 2); item(0, 0, 1, 5); drop(0); sheet(0, 0, 2)", 0, 0, 0, 0);
        items("sheet(0, 0, 2); item(0, 0, 1, 5); sheet(0, 3, 2)", 0, 3, 0, 0);
        says(32, "holds a new row of a LANE: the LANE it had is gone");
        run("sheet(0, 0, 2); sheet(0, 3, 1) = 1; came(0, 0, 0) = CAST; item(0, 3, 0, 1) = 1; item(0, 3, 1, 1) = INDEX");
        says(32, "the other SHEETS stay");
        items("sheet(0, 0, 2); item(0, 0, 1, 5); sheet(1, 0, 2); sheet(2, 0, 3); sheet(3, 0, 4)", 0, 0, 0, 5);
    }

    private void drops() {
        says(33, "drop: sheets 0 .. 3. BAD");
        leaves(BUSY, BAD, "drop(-1)", "drop(4)", "drop(LEAST)", "drop(MOST)");
        says(33, "NULL");
        leaves(BUSY, NULL, "drop(3)");
        leaves("sheet(1, 1, 1); drop(1);", NULL, "drop(0)", "drop(1)", "drop(2)", "drop(3)");
        says(33, "A SHEET holds nothing: how many items it had");
        run("sheet(0, 0, 24); drop(0) = 24; drop(0) = NULL; item(0, 0, 0, 1) = NULL; came(0, 0, 0) = NULL");
        says(33, "a row of no items is not nothing");
        run("sheet(0, 0, 0); drop(0) = 0; drop(0) = NULL");
        says(33, "the other SHEETS stay");
        run("sheet(0, 0, 3); sheet(1, 1, 4); sheet(2, 2, 5); sheet(3, 3, 6); drop(1) = 4; drop(0) = 3;"
            + "drop(3) = 6; drop(2) = 5");
    }

    private void lowestBits() {
        says(34, "Item i becomes v: 1; the others stay");
        run("sheet(0, 0, 3); item(0, 0, 0, 1) = 1; item(0, 0, 2, 3) = 1");
        items("sheet(0, 0, 3); item(0, 0, 0, 1); item(0, 0, 2, 3)", 0, 0, 1, 0, 3);
        items("sheet(0, 3, 2); item(0, 3, 1, 96); item(0, 3, 1, 0)", 0, 3, 0, 0);
        says(34, "v, its lowest bits: 8 of a byte");
        keeps(0, 5, "5", "261", "-251", "65541", "4294967301", "-9223372036854775803");
        keeps(0, -1, "133", "-1", "255", "127", "128");
        keeps(0, 0, "256", "-256", "65536", "-9223372036854775808");
        says(34, "v, its lowest bits: 16 of a short");
        keeps(1, 5, "5", "65541", "-65531", "4294967301", "-9223372036854775803");
        keeps(1, -1, "261", "32773", "-1", "65535", "-251");
        says(34, "v, its lowest bits: 32 of an int");
        keeps(2, 5, "5", "4294967301", "-4294967291", "-9223372036854775803");
        keeps(2, -1, "261", "65541", "2147483653", "-1", "4294967295");
        says(34, "v, its lowest bits: all of a long");
        keeps(3, 5, "5");
        keeps(3, -1, "261", "65541", "4294967301", "-9223372036854775803", "9223372036854775807", "-1");
    }

    private void keeps(int lane, int want, String... values) {
        for (String v : values) {
            items("sheet(2, " + lane + ", 1); item(2, " + lane + ", 0, " + v + ")", 2, lane, want);
        }
    }

    /** Sheet 0 has 1 .. 5, sheet 1 has 11 .. 14, both shorts; sheet 2 has ints; sheet 3 is missing. */
    private static String rows() {
        StringBuilder made = new StringBuilder("sheet(0, 1, 5); sheet(1, 1, 4); sheet(2, 2, 4);");
        for (int i = 0; i < 5; i++) {
            made.append("item(0, 1, ").append(i).append(", ").append(i + 1).append(");");
        }
        for (int i = 0; i < 4; i++) {
            made.append("item(1, 1, ").append(i).append(", ").append(i + 11).append(");");
        }
        return made.toString();
    }

    private void copies() {
        says(35, "n items of a SHEET from i on come to another one from j on: n");
        run(rows() + "copy(0, 1, 1, 2, 2) = 2");
        items(rows() + "copy(0, 1, 1, 2, 2)", 1, 1, 11, 12, 2, 3);
        items(rows() + "copy(0, 1, 1, 2, 2)", 0, 1, 1, 2, 3, 4, 5);
        items(rows() + "copy(1, 0, 0, 1, 4)", 0, 1, 1, 11, 12, 13, 14);
        says(35, "n items: none");
        leaves(rows(), 0, "copy(0, 0, 1, 0, 0)", "copy(0, 5, 1, 4, 0)", "copy(0, 0, 0, 5, 0)");
        run("sheet(0, 3, 0); sheet(1, 3, 0); copy(0, 0, 1, 0, 0) = 0; copy(0, 0, 0, 0, 0) = 0");
        says(35, "n items: all");
        items(rows() + "copy(1, 0, 0, 0, 4)", 0, 1, 11, 12, 13, 14, 5);
        run(WIDEST + "item(0, 1, 23, 6); came(3, 1, 12) = 31; copy(0, 0, 3, 0, 24) = 24; came(3, 1, 12) = 0");
        says(35, "what is no number is copied, too");
        items(rows() + "item(0, 1, 0, -1); copy(0, 0, 1, 3, 1)", 1, 1, 11, 12, 13, -1);
    }

    private void copyRefusals() {
        says(35, "copy: sheets 0 .. 3. BAD");
        leaves(rows(), BAD, "copy(-1, 0, 0, 0, 1)", "copy(4, 0, 0, 0, 1)", "copy(0, 0, -1, 0, 1)",
            "copy(0, 0, 4, 0, 1)", "copy(LEAST, 0, 0, 0, 1)", "copy(0, 0, MOST, 0, 1)");
        says(35, "NULL (either)");
        leaves(rows(), NULL, "copy(3, 0, 0, 0, 1)", "copy(0, 0, 3, 0, 1)", "copy(3, 0, 3, 0, 1)",
            "copy(3, 0, 3, 0, 0)");
        says(35, "CAST: of unlike LANES");
        leaves(rows(), CAST, "copy(0, 0, 2, 0, 1)", "copy(2, 0, 0, 0, 1)", "copy(0, 0, 2, 0, 0)");
        says(35, "of several: BAD, NULL, CAST, INDEX");
        leaves(rows(), BAD, "copy(3, 0, 4, 0, 1)", "copy(-1, 0, 3, 0, 1)", "copy(4, -1, 2, -1, -1)",
            "copy(2, 9, 4, 9, 9)");
        leaves(rows(), NULL, "copy(3, -1, 0, 0, 1)", "copy(0, -1, 3, 0, -1)", "copy(2, 9, 3, 9, 9)");
        leaves(rows(), CAST, "copy(0, -1, 2, 0, 1)", "copy(2, 0, 1, 9, 1)", "copy(0, 0, 2, 0, -1)",
            "copy(0, 0, 2, 0, 99)");
    }

    private void copyIndexes() {
        says(35, "INDEX: from i on");
        leaves(rows(), INDEX, "copy(0, -1, 1, 0, 1)", "copy(0, 5, 1, 0, 1)", "copy(0, 2, 1, 0, 4)",
            "copy(0, 6, 1, 0, 0)", "copy(0, -1, 1, 0, 0)", "copy(0, LEAST, 1, 0, 1)");
        says(35, "INDEX: from j on");
        leaves(rows(), INDEX, "copy(0, 0, 1, -1, 1)", "copy(0, 0, 1, 4, 1)", "copy(0, 0, 1, 1, 4)",
            "copy(0, 0, 1, 0, 5)", "copy(0, 0, 1, 5, 0)", "copy(0, 0, 1, -1, 0)", "copy(0, 0, 1, LEAST, 1)");
        says(35, "INDEX: n below 0, as the machine finds it");
        leaves(rows(), INDEX, "copy(0, 0, 1, 0, -1)", "copy(0, 1, 1, 1, -1)", "copy(0, 0, 1, 0, LEAST)");
        says(35, "INDEX: sums that would wrap around");
        leaves(rows(), INDEX, "copy(0, MOST, 1, 0, 1)", "copy(0, 0, 1, MOST, 1)", "copy(0, 1, 1, 0, MOST)",
            "copy(0, MOST, 1, MOST, MOST)", "copy(0, LEAST, 1, LEAST, LEAST)", "copy(0, 0, 1, 1, MOST)",
            "copy(0, MOST, 1, 0, 0)");
        says(35, "INDEX, where some of the items would fit");
        items(rows() + "copy(0, 3, 1, 0, 3)", 1, 1, 11, 12, 13, 14);
        items(rows() + "copy(0, 0, 1, 2, 3)", 1, 1, 11, 12, 13, 14);
    }

    private void copyOverItself() {
        says(35, "(or the same), as if all were taken ahead");
        run(rows() + "copy(0, 0, 0, 1, 4) = 4; copy(0, 1, 0, 0, 4) = 4; copy(0, 0, 0, 0, 5) = 5");
        items(rows() + "copy(0, 0, 0, 1, 4)", 0, 1, 1, 1, 2, 3, 4);
        items(rows() + "copy(0, 1, 0, 0, 4)", 0, 1, 2, 3, 4, 5, 5);
        items(rows() + "copy(0, 0, 0, 2, 3)", 0, 1, 1, 2, 1, 2, 3);
        leaves(rows(), 5, "copy(0, 0, 0, 0, 5)");
    }
}
