/** Boundary cases of promises 29 to 31: which cells the table hides, what it tells, and what could be. */
final class TableEdges {
    private static final String SMALL = "CELLS that are above 0 and below the least cell are SMALL: HIDDEN";
    private static final String FEWEST = "as few others as may be are HIDDEN, too, so that no SMALL cell FOLLOWS";
    private static final String FOLLOWS =
            "it FOLLOWS if, of all tables with the same sums, the same told cells, and whole numbers of 0 or more in "
            + "HIDDEN ones, none has another number there";
    private static final String FIRST =
            "Of several such sets that whose first cell (4 times the row, and the column) is least, then the second, "
            + "and so on.";
    private static final String TOLD =
            "What THE TABLE tells of a cell (row 6, or column 4: the sum): its number; -2 HIDDEN; NONE: no such cell, no "
            + "TABLE.";
    private static final String COULD =
            "The least number (most false), or the greatest one, that a cell of THE TABLE could have by all that is told";

    private final Edges edges;

    TableEdges(Edges edges) {
        this.edges = edges;
    }

    void play() {
        closedOnly();
        smallCells();
        fewestOthers();
        whoFollows();
        longRounds();
        firstOfSeveral();
        mostOthers();
        asThingsAre();
        told();
        could();
        couldRounds();
    }

    private void closedOnly() {
        edges.edge(29, "-6 the field isn't CLOSED, there is none.", """
            table() ! -6
            cells 0: 5 0 0 0
            table() ! -6
            told(0, 0) = -1
            fill() = 0
            table() = 0
            told(0, 0) = 5
            """);
        edges.edge(29, "-6 the field isn't CLOSED, there is none.", """
            fill() = 0
            told(6, 4) = -1
            table() = 0
            told({0..6}, {0..4}) = 0
            could({0..5}, {0..3}, {false true}) = 0
            """);
    }

    private void smallCells() {
        edges.edge(29, SMALL, """
            law k3p2c2
            cells 0: 1 2 0 3
            cells 1: 2 1 0 3
            fill()
            table() = 4
            told(0, {0..3}) = -2 -2 0 3
            told(1, {0..3}) = -2 -2 0 3
            """);
        edges.edge(29, SMALL, """
            law k3p2c9
            cells 0: 8 9 0 10
            cells 1: 9 8 0 9
            fill()
            table() = 4
            told(0, {0..3}) = -2 -2 0 10
            told(1, {0..3}) = -2 -2 0 9
            """);
        edges.edge(29, SMALL, """
            law k3p2c9
            cells 0: 9 0 0 0
            cells 5: 0 0 0 9
            fill()
            table() = 0
            told({0 5}, {0 3}) = 9 0 0 9
            """);
        edges.edge(29, SMALL, """
            law k3p2c2
            cells 0: 1 1 1 1
            cells 1: 1 1 1 1
            cells 2: 1 1 1 1
            cells 3: 1 1 1 1
            cells 4: 1 1 1 1
            cells 5: 1 1 1 1
            fill()
            table() = 24
            told({0..5}, {0..3}) = -2
            told({0..5}, 4) = 4
            told(6, {0..4}) = 6 6 6 6 24
            """);
        edges.edge(29, "how many HEADS of RETURNS (FILLED, too) are counted", """
            knocked 0 0: 5 5
            door(0, 0, 0)
            fill() = 1
            table() = 0
            told(0, 0) = 4
            """);
        edges.edge(29, "how many HEADS of RETURNS (FILLED, too) are counted", """
            knocked 0 1: 30 30 30
            knocked 5 0: 5 5 5 5
            twice(0, 0, 1, 3) = 1
            fill() = 0
            table() = 0
            told(5, 0) = 3
            """);
    }

    private void fewestOthers() {
        edges.edge(29, FEWEST, """
            cells 0: 1 1 0 0
            cells 1: 1 5 0 0
            fill()
            table() = 4
            told({0 1}, {0 1}) = -2
            """);
        edges.edge(29, FEWEST, """
            cells 0: 1 5 0 0
            cells 1: 5 5 0 0
            fill()
            table() = 4
            told({0 1}, {0 1}) = -2
            """);
        edges.edge(29, FEWEST, """
            cells 0: 2 5 0 2
            cells 1: 5 5 5 5
            cells 4: 2 5 5 4
            fill()
            table() = 4
            told(0, {0..3}) = -2 5 0 -2
            told(1, {0..3}) = 5
            told(4, {0..3}) = -2 5 5 -2
            """);
        edges.edge(29, FEWEST, """
            cells 0: 1 3 3 3
            cells 1: 3 1 3 3
            cells 2: 3 3 3 3
            fill()
            table() = 4
            told(0, {0..3}) = -2 -2 3 3
            told(1, {0..3}) = -2 -2 3 3
            told(2, {0..3}) = 3
            """);
    }

    private void whoFollows() {
        edges.edge(29, FOLLOWS, """
            cells 0: 1 5 0 0
            cells 1: 5 0 0 0
            fill()
            table() = 4
            told({0 1}, {0 1}) = -2
            could(0, 0, {false true}) = 1 6
            could(1, 1, {false true}) = 0 5
            """);
        edges.edge(29, FOLLOWS, """
            cells 0: 1 0 4 0
            cells 1: 0 4 0 0
            fill()
            table() = 4
            told(0, {0..3}) = -2 -2 4 0
            told(1, {0..3}) = -2 -2 0 0
            could(0, 0, {false true}) = 0 1
            """);
        edges.edge(29, FOLLOWS, """
            cells 2: 0 0 2 0
            fill()
            table() ! -6
            told(6, 4) = -1
            """);
        edges.edge(29, FOLLOWS, """
            cells 0: 1 0 0 0
            cells 5: 0 0 0 1
            fill()
            table() = 4
            told({0 5}, {0 3}) = -2
            told({0 5}, {1 2}) = 0
            """);
        edges.edge(29, FOLLOWS, """
            cells 0: 1 0 0 0
            cells 1: 9 0 0 0
            cells 2: 9 9 0 0
            fill()
            table() = 4
            told({0 2}, {0 1}) = -2
            told(1, {0 1}) = 9 0
            """);
        edges.edge(29, FOLLOWS, """
            cells 0: 1 0 0 0
            cells 1: 9 0 0 0
            cells 2: 9 0 0 0
            fill()
            table() ! -6
            """);
        edges.edge(29, FOLLOWS, """
            cells 0: 2 0 0 4
            cells 1: 0 9 0 0
            fill()
            table() = 4
            told(0, {0..3}) = -2 -2 0 4
            told(1, {0..3}) = -2 -2 0 0
            """);
    }

    private void longRounds() {
        edges.edge(29, FOLLOWS, """
            law k3p2c2
            cells 0: 1 0 1 0
            cells 1: 1 1 0 0
            cells 2: 0 1 1 0
            fill()
            table() = 6
            told(0, {0..3}) = -2 0 -2 0
            told(1, {0..3}) = -2 -2 0 0
            told(2, {0..3}) = 0 -2 -2 0
            could({0 1}, 0, {false true}) = 0 2 0 2
            """);
        edges.edge(29, FOLLOWS, """
            law k3p2c2
            cells 1: 1 0 0 1
            cells 2: 1 1 0 0
            cells 4: 0 1 1 0
            cells 5: 0 0 1 1
            fill()
            table() = 8
            told({1 2 4 5}, {0..3}) = -2 0 0 -2 -2 -2 0 0 0 -2 -2 0 0 0 -2 -2
            could({1 5}, 3, {false true}) = 0 2 0 2
            """);
        edges.edge(29, FOLLOWS, """
            law k3p2c2
            cells 0: 1 0 2 0
            cells 1: 2 1 0 0
            cells 2: 0 2 1 0
            fill()
            table() = 6
            told(0, {0..3}) = -2 -2 2 0
            told(1, {0..3}) = 2 -2 -2 0
            told(2, {0..3}) = -2 2 -2 0
            could({0 1 2}, 0, {false true}) = 0 1 2 2 0 1
            """);
    }

    private void firstOfSeveral() {
        edges.edge(29, FIRST, """
            cells 0: 4 4 4 4
            cells 3: 4 4 1 4
            cells 5: 4 4 4 4
            fill()
            table() = 4
            told(0, {0..3}) = -2 4 -2 4
            told(3, {0..3}) = -2 4 -2 4
            told(5, {0..3}) = 4
            """);
        edges.edge(29, FIRST, """
            cells 0: 1 4 4 4
            cells 4: 4 4 4 4
            cells 5: 4 4 4 4
            fill()
            table() = 4
            told(0, {0..3}) = -2 -2 4 4
            told(4, {0..3}) = -2 -2 4 4
            told(5, {0..3}) = 4
            """);
        edges.edge(29, FIRST, """
            cells 3: 4 4 4 4
            cells 4: 4 4 4 4
            cells 5: 4 4 4 1
            fill()
            table() = 4
            told(3, {0..3}) = -2 4 4 -2
            told(4, {0..3}) = 4
            told(5, {0..3}) = -2 4 4 -2
            """);
    }

    private void mostOthers() {
        edges.edge(29, "(No TABLE if more than 4 others were needed.)", """
            law k3p2c2
            cells 0: 2 2 2 2
            cells 1: 1 2 2 2
            cells 2: 2 1 2 2
            cells 3: 2 2 1 2
            cells 4: 2 2 2 1
            fill()
            table() = 8
            told(0, {0..3}) = 2
            told(1, {0..3}) = -2 -2 2 2
            told(2, {0..3}) = -2 -2 2 2
            told(3, {0..3}) = 2 2 -2 -2
            told(4, {0..3}) = 2 2 -2 -2
            """);
        edges.edge(29, "(No TABLE if more than 4 others were needed.)", """
            law k3p2c2
            cells 0: 1 2 2 2
            cells 1: 2 1 2 2
            cells 2: 2 2 1 2
            cells 3: 2 2 2 1
            cells 4: 1 2 2 2
            fill()
            table() ! -6
            told({0 6}, {0 4}) = -1
            could(0, 0, true) = -1
            """);
    }

    private void asThingsAre() {
        edges.edge(29, "THE TABLE is made as things are: how many cells are HIDDEN.", """
            knocked 0 0: 30 30 30
            knocked 1 0: 30 30 30
            fill()
            table() = 0
            twice(0, 0, 1, 0) = 1
            told(1, {1 4}) = 3
            told(6, {1 4}) = 6
            could(1, 1, {false true}) = 3
            table() ! -6
            told(1, {1 4}) = 3
            law k3p2c2
            told(1, 1) = 3
            table() = 0
            told(1, {1 4}) = 2
            told(6, {1 4}) = 5
            could(1, 1, {false true}) = 2
            """);
        edges.edge(29, "THE TABLE is made as things are: how many cells are HIDDEN.", """
            law k3p2c2
            knocked 0 0: 10
            knocked 2 0: 70 70
            knocked 1 0: 30 30
            fill()
            table() = 4
            told({0 1}, {0 1}) = -2
            told({0 2}, 2) = 0 2
            twice(1, 0, 2, {0 1}) = 2
            told(1, {0..4}) = -2 -2 0 0 2
            table() = 4
            told({0 2}, {0 2}) = -2
            told({0 2}, 1) = 0
            told(1, {0..4}) = 0
            could(0, 0, {false true}) = 0 1
            """);
        edges.edge(29, "THE TABLE is made as things are: how many cells are HIDDEN.", """
            cells 0: 2 2 0 0
            cells 1: 2 2 0 0
            fill()
            table() = 4
            table() = 4
            law k3p2c2
            table() = 0
            told(0, 0) = 2
            """);
    }

    private void told() {
        edges.edge(30, TOLD, """
            told(0, 0) = -1
            cells 0: 1 5 0 0
            cells 5: 5 5 0 3
            told(0, 0) = -1
            fill()
            told(0, 0) = -1
            table() = 4
            told({0 5}, {0 1}) = -2
            told(0, {2 3 4}) = 0 0 6
            told(5, {2 3 4}) = 0 3 13
            told(6, {0..4}) = 6 10 0 3 19
            told({1..4}, {0..4}) = 0
            told({-1 7 MIN MAX}, {0 4}) = -1
            told({0 6}, {-1 5 MIN MAX}) = -1
            told(-1, 4) = -1
            told(7, 5) = -1
            status({11..17}) = 0
            """);
        edges.edge(30, TOLD, """
            row 0 2: 30 30 30 30 30 30 30 30 30 30 30 30
            24 times door(5, 0, 1)
            truth({0..23}, 0) = 12
            knock({0..23}, 0) = 1
            fill()
            table() = 0
            told(5, {0..4}) = 0 288 0 0 288
            told(6, {0..4}) = 0 288 0 0 288
            could(5, 1, {false true}) = 288
            """);
    }

    private void could() {
        edges.edge(31, "NONE: no such cell (no sums), no TABLE.", """
            could(0, 0, {false true}) = -1
            cells 0: 4 5 0 0
            fill()
            could(0, 0, {false true}) = -1
            table() = 0
            could(0, {0 1 2}, {false true}) = 4 4 5 5 0 0
            could(5, 3, {false true}) = 0
            could({-1 6 7 MIN MAX}, 0, {false true}) = -1
            could(0, {-1 4 5 MIN MAX}, {false true}) = -1
            could(6, 4, {false true}) = -1
            status({11..17}) = 0
            """);
        edges.edge(31, COULD, """
            cells 0: 1 5 0 0
            cells 5: 5 5 0 3
            fill()
            table() = 4
            could(0, 0, {false true}) = 0 6
            could(0, 1, {false true}) = 0 6
            could(5, 0, {false true}) = 0 6
            could(5, 1, {false true}) = 4 10
            could(5, 3, {false true}) = 3
            """);
        edges.edge(31, COULD, """
            cells 0: 1 0 0 0
            cells 5: 0 0 0 1
            fill()
            table() = 4
            could({0 5}, {0 3}, false) = 0
            could({0 5}, {0 3}, true) = 1
            could(0, {1 2}, {false true}) = 0
            """);
    }

    private void couldRounds() {
        edges.edge(31, COULD, """
            cells 0: 2 2 2 0
            cells 1: 2 2 2 0
            cells 4: 2 2 0 0
            fill()
            table() = 8
            could({0 1 4}, {0 1}, false) = 0
            could({0 1 4}, {0 1}, true) = 6 6 6 6 4 4
            could({0 1}, 2, {false true}) = 0 4 0 4
            could(4, 2, {false true}) = 0
            """);
        edges.edge(31, COULD, """
            law k3p2c5
            cells 0: 1 0 0 5
            cells 2: 2 0 0 5
            cells 3: 3 0 0 2
            fill()
            table() = 6
            could({0 2 3}, 0, {false true}) = 0 6 0 6 0 5
            could({0 2 3}, 3, {false true}) = 0 6 1 7 0 5
            """);
        edges.edge(31, COULD, """
            law k3p2c2
            cells 0: 1 1 1 1
            cells 1: 1 1 1 1
            cells 2: 1 1 1 1
            cells 3: 1 1 1 1
            cells 4: 1 1 1 1
            cells 5: 1 1 1 1
            fill()
            table() = 24
            could({0..5}, {0..3}, false) = 0
            could({0..5}, {0..3}, true) = 4
            """);
        edges.edge(31, COULD, """
            law k3p2c3
            cells 0: 1 2 0 0
            cells 1: 0 1 2 0
            cells 2: 2 0 1 0
            fill()
            table() = 6
            told(0, {0..2}) = -2 -2 0
            told(1, {0..2}) = 0 -2 -2
            told(2, {0..2}) = -2 0 -2
            could(0, 0, {false true}) = 0 3
            could(0, 1, {false true}) = 0 3
            could(1, {1 2}, {false true}) = 0 3 0 3
            could(2, {0 2}, {false true}) = 0 3 0 3
            """);
    }
}
