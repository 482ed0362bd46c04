/** Each sentence of the document's Terms, whole and in its order, by calls that answer otherwise if it is broken. */
final class TermsEdges {
    private final Edges edges;

    TermsEdges(Edges edges) {
        this.edges = edges;
    }

    void play() {
        blocksAndDoors();
        truth();
        shelvesAndRows();
        bands();
        law();
        fault();
        returns();
        papersAndKnocks();
        neighbours();
        toBeAsked();
        filling();
        struck();
        chance();
        work();
        walks();
        cut();
        tableCells();
        tableTold();
        smallCells();
        severalSets();
        noTable();
        nobody();
        otherAndNothing();
        belowAndBeyond();
        wrong();
        wrongWhenClosed();
        room();
    }

    private void term(String sentence, String script) {
        edges.edge(Edges.TERMS, sentence, script);
    }

    // ---- doors and heads

    private void blocksAndDoors() {
        term("BLOCKS are 0 to 5.", """
            door({0..5}, 0, 0) = 0 1 2 3 4 5
            door({-1 6}, 0, 0) ! -1
            near(0, 5) = 1
            near({-1 6}, 0) ! -1
            near(0, {-1 6}) ! -1
            count({-1 0 5 6}, 0, true) = -1 0 0 -1
            row(0, 0, 1)
            second({0 5}, 0) = 0
            second({-1 6}, 0) ! -1
            cut(24) = 5
            walk({-1 0 1 4 5 6}) = -1 0 1 4 0 -1
            """);
        term("DOORS have numbers, from 0 on, 24 at most: a BLOCK, a LIKE 0 to 3, HOURS at which somebody is in "
                + "(bits 0 to 9).", """
            door(4, 0, 1) = 0
            door(5, 3, 512) = 1
            door(0, 1, 1023) = 2
            door(0, {-1 4}, 0) ! -6
            door(0, 0, {-1 1024}) ! -6
            show(0, 0)
            show(1, 1)
            show(2, 2)
            blockIn({0..2}) = 4 5 0
            knock(0, {9 1}) = 0
            knock(0, 0) = 1
            knock(1, {0 8}) = 0
            knock(1, 9) = 1
            knock(2, 4) = 1
            bestHour({0..3}) = 0 4 0 9
            21 times door(0, 2, 0)
            status(0) = 24
            door(0, 0, 0) ! -7
            about({22 23 24}, 0) = 0 0 -1
            """);
    }

    private void truth() {
        term("TRUTH of a DOOR: the HEADS that live there: a ROW that was given (as it was then), an element (as an int) "
                + "for each: an AGE, if it is 0 to 110, else none (what is the least number of its SORT has none, too).",
            """
            4 times door(0, 0, 1023)
            row 0 0: -128 0 110 111 -1
            truth(0, 0) = 5
            row 0 1: 256 -32768 17 366
            truth(1, 0) = 4
            row 0 2: MIN 1 MAX 0
            truth(2, 0) = 4
            row 0 3: LMIN 2^32+110 LMIN+8 2^31 2^32-1 2^33
            truth(3, 0) = 6
            set(0, {0..5}, 44)
            row(0, 3, 1)
            knock({0..3}, 0) = 1
            age(0, {0..5}) = -2 0 110 -2 -2 -1
            age(1, {0..4}) = -2 -2 17 -2 -1
            age(2, {0..4}) = -2 1 -2 0 -1
            age(3, {0..6}) = -2 110 8 -2 -2 0 -1
            """);
        term("Without TRUTH nobody lives there.", """
            2 times door(0, 0, 1)
            knock(0, 0) = 1
            paper(1) = 0
            about({0 1}, {0 1 2}) = 2 0 0 1 0 0
            age({0 1}, 0) = -1
            status(3) = 0
            """);
        term("TRUTH has 12 HEADS at most.", """
            door(0, 0, 1)
            row(0, 0, 12)
            row(1, 0, 13)
            truth(0, 1) ! -7
            truth(0, 0) = 12
            truth(0, 1) ! -7
            paper(0) = 12
            """);
    }

    private void shelvesAndRows() {
        term("SHELVES 0 to 7 hold NOTHING (at first), a ROW, or a DOOR.", """
            holds({-1 0 1 2 3 4 5 6 7 8}) = -1
            door(3, 0, 0)
            row({0 7}, 1, 2) = 1
            show({1 6}, 0) = 1
            holds({0..7}) = 101 0 -1 -1 -1 -1 0 101
            row({-1 8}, 1, 2) ! -1
            show({-1 8}, 0) ! -1
            show({0 1}, -1) = 0
            show(7, 0) = 1
            row(6, 3, 1) = 1
            holds({0..7}) = -1 -1 -1 -1 -1 -1 103 0
            """);
        term("A ROW has a SORT (0 bytes, 1 shorts, 2 ints, 3 longs) and 0 to 30 elements, 0 at first; what is put in "
                + "keeps its lowest bits.", """
            row(0, {-1 4}, 1) ! -6
            row(0, 0, 31) ! -7
            row(0, 0, -1) ! -4
            row(0, 0, 30) = 1
            row(1, 1, 30) = 1
            row(2, 2, 30) = 1
            row(3, 3, 30) = 1
            row(4, 3, 0) = 1
            element({0..3}, {0 29}) = 0
            set(4, 0, 1) ! -5
            set({0..3}, 0, 2^40+40000) = 1
            element({0..3}, 0) = 64 -25536 40000 2^40+40000
            set({0..3}, 29, 2^31+128) = 1
            element({0..3}, 29) = -128 128 MIN+128 2^31+128
            element({0..3}, {1 28 30}) = 0
            """);
    }

    private void bands() {
        term("BANDS of HEADS: 0 AGE 0 to 17, 1 18 to 64, 2 65 to 110, 3 no AGE told.", """
            knocked 2 0: 0 17
            knocked 2 0: 18 40 64
            knocked 2 0: 65 70 80 90 110
            knocked 2 0: 111 -1 MIN MAX 500 1000 2000
            count(2, {-1 0 1 2 3 4}, true) = -1 2 3 5 7 -1
            """);
    }

    private void law() {
        term("THE LAW is a ROW of letters (elements as ints: of longs the lowest 32 bits): k and a digit 1 to 9 (KNOCKS "
                + "at most), p and a digit 1 to 9 (KNOCKS ahead of a neighbour), c and a digit 2 to 9 (least cell), like "
                + "k3p2c3, which it is at first.", """
            status({18..20}) = 3 2 3
            door(0, 0, 0)
            2 times knock(0, 0) = 0
            proxy(0, 2) = 2
            knock(0, 0) = 0
            knock(0, 0) ! -6
            row 0 3: 2^32+'k' LMIN+'5' 'p' 2^40+'4' 'c' '2'
            law(0) = 1
            status({18..20}) = 5 4 2
            2 times knock(0, 0) = 0
            knock(0, 0) ! -6
            door(0, 0, 0)
            3 times knock(1, 0) = 0
            proxy(1, 2) ! -6
            knock(1, 0) = 0
            proxy(1, 4) = 4
            fill() = 0
            table() = 0
            told(0, 3) = 6
            law k1p1c9
            table() ! -6
            """);
        term("THE LAW is a ROW of letters (elements as ints: of longs the lowest 32 bits): k and a digit 1 to 9 (KNOCKS "
                + "at most), p and a digit 1 to 9 (KNOCKS ahead of a neighbour), c and a digit 2 to 9 (least cell), like "
                + "k3p2c3, which it is at first.", """
            row 0 2: 'k' '0' 'p' '1' 'c' '2'
            law(0) ! -6
            set(0, 1, '1')
            law(0) = 1
            set(0, 3, '0')
            law(0) ! -6
            set(0, 3, '9')
            set(0, 5, '1')
            law(0) ! -6
            set(0, 5, '9')
            law(0) = 1
            status({18..20}) = 1 9 9
            set(0, 1, '9')
            law(0) = 1
            set(0, {1 3 5}, '9'+1)
            law(0) ! -6
            status({18..20}) = 9 9 9
            """);
    }

    private void fault() {
        term("Its FAULT: the first place at which an element can't stand as a LAW goes on (the number of elements, if it "
                + "ends too early).", """
            row(0, 1, 0)
            law(0) ! -6
            fault() = 0
            row 0 1: 'k' '4' 'p' '4'
            law(0) ! -6
            fault() = 4
            row 0 1: 'k' '4' 'c' '4' 'p' '4'
            law(0) ! -6
            fault() = 2
            row 0 1: 'k' '4' 'p' 'p' 'p' 'p' 'p'
            law(0) ! -6
            fault() = 3
            row 0 1: 'k' '4' 'p' '4' 'c' '4' 'k'
            law(0) ! -6
            fault() = 6
            status({18..20}) = 3 2 3
            """);
    }

    // ---- the field

    private void returns() {
        term("Each DOOR has a RETURN: 0 none, 1 PAPER, 2 KNOCK, 3 PROXY, 4 FILLED; a row of HEADS with an AGE, or none "
                + "told.", """
            law k3p1c3
            home 0 0 1: 21 22
            home 0 0 1: 31 -1
            home 0 1 0: 41
            home 0 0 0: 51
            about({0..3}, {0 2}) = 0
            paper(0) = 2
            knock(1, 0) = 1
            knock(2, 5) = 0
            proxy(2, 3) = 3
            fill() = 1
            about({0..3}, 0) = 1 2 3 4
            about({0..3}, 2) = 2 2 3 2
            age(0, {0..2}) = 21 22 -1
            age(1, {0..2}) = 31 -2 -1
            age(2, {0..3}) = -2 -2 -2 -1
            age(3, {0..2}) = 31 -2 -1
            """);
    }

    private void papersAndKnocks() {
        term("A PAPER tells HEADS of TRUTH in order; at the first one without AGE it is BROKEN there (the HEADS ahead are "
                + "kept); else it is WHOLE.", """
            home 0 0 0: 3 1 2
            home 0 0 0: 6 5 200 4 -1
            home 0 0 0: -1 9
            paper({0..2}) = 3 2 0
            about({0..2}, 0) = 1
            about({0..2}, 1) = 0 1 1
            age(0, {0..3}) = 3 1 2 -1
            age(1, {0..3}) = 6 5 -1 -1
            age(2, 0) = -1
            """);
        term("A KNOCK at an HOUR at which somebody is in tells all HEADS, those without AGE with none told; else nobody "
                + "answers (each is counted as a KNOCK at the DOOR).", """
            home 0 0 4: 8 -1 111 7
            knock(0, 1) = 0
            about(0, {0 2 4}) = 0 0 1
            knock(0, 3) = 0
            about(0, {0 2 4}) = 0 0 2
            knock(0, 2) = 1
            about(0, {0 2 4}) = 2 4 3
            age(0, {0..4}) = 8 -2 -2 7 -1
            status({5 6}) = 3 1
            """);
    }

    private void neighbours() {
        term("A neighbour tells how many HEADS there are, no AGES.", """
            law k1p1c3
            home 1 0 0: 30
            knock(0, 0) = 0
            proxy(0, 5) = 5
            about(0, {0 1 2}) = 3 0 5
            age(0, {0..5}) = -2 -2 -2 -2 -2 -1
            count(1, {0..3}, true) = 0 0 0 5
            heap() = 100
            """);
    }

    private void toBeAsked() {
        term("DOORS to be asked: those without RETURN, with a BROKEN PAPER, or a PROXY.", """
            law k9p1c3
            home 0 0 1: 5
            home 0 0 1: 5 -1
            home 0 0 1: 5
            home 0 0 1: 5
            home 0 0 1: 5
            status(8) = 5
            paper({0 1}) = 1
            knock(2, 0) = 1
            knock({3 4}, 1) = 0
            proxy(3, 2) = 2
            status(8) = 3
            knock({0 2}, 1) ! -6
            proxy({0 2}, 1) ! -6
            paper({0 2}) ! -6
            knock({1 3 4}, 1) = 0
            paper({3 4}) = 1
            proxy(1, 1) = 1
            status(8) = 1
            fill() = 0
            status(8) = 1
            """);
    }

    private static final String FILLING = "The field is CLOSED by filling: DOORS without RETURN, by numbers, get the HEADS "
            + "(STRUCK ones left out) of the DOOR nearest by number (of two alike the lesser) with the same LIKE and a "
            + "WHOLE PAPER or a KNOCK, that was used less than two times; none if there is none.";

    private void filling() {
        term(FILLING, """
            knocked 0 1: 60
            knocked 0 0: 10 60
            door(1, 0, 0)
            knocked 2 0: 11
            door(3, 0, 0)
            home 4 0 0: 12
            paper(5) = 1
            door(5, 0, 0)
            door(0, 0, 0)
            door(0, 0, 0)
            door(0, 2, 0)
            twice(0, 0, 1, 1) = 1
            status(7) = 0
            fill() = 5
            status(7) = 1
            from({0..9}) = -1 -1 1 -1 3 -1 5 5 3 -1
            about(2, {0 2 3}) = 4 1 0
            age({2 4 6 7 8}, 0) = 10 11 12 12 11
            about(9, {0 2}) = 0 0
            about({0..9}, 5) = 0 1 0 2 0 2 0 0 0 0
            fill() ! -6
            """);
        term(FILLING, """
            law k3p1c3
            home 0 3 0: 5 -1
            paper(0) = 1
            door(0, 3, 0)
            home 0 3 0: 5
            knock(2, 0) = 0
            proxy(2, 1) = 1
            knocked 0 2: 5
            fill() = 0
            from({0..3}) = -1
            about({0..3}, 0) = 1 0 3 2
            """);
    }

    private void struck() {
        term("Of two HEADS told to be one person, that at the DOOR of the greater number is STRUCK: it is counted nowhere.",
            """
            knocked 1 0: 30 40
            knocked 2 0: 30 41 50
            knocked 3 0: 30
            twice(2, 0, 1, 0) = 2
            twice(0, 1, 1, 2) = 1
            about({0..2}, 2) = 2 3 1
            about({0..2}, 3) = 0 1 1
            count({1 2 3}, 1, true) = 2 2 0
            status({3 4}) = 4 2
            heap() = 375
            row 0 2: 3
            second(2, 0) = 3
            right({false true}) = 6 1
            fill() = 0
            law k3p2c2
            table() = 0
            told({1..3}, 1) = 2 2 0
            """);
        term("(A new RETURN of a DOOR has no STRUCK ones.)", """
            knocked 0 0: 7
            home 0 0 1: 7 -1
            paper(1) = 1
            twice(0, 0, 1, 0) = 1
            status({3 4}) = 1 1
            knock(1, 0) = 1
            about(1, {2 3}) = 2 0
            status({3 4}) = 3 0
            """);
    }

    private void chance() {
        term("CHANCE of an HOUR for a LIKE: (answers and 1) by (KNOCKS and 2), of all KNOCKS at DOORS of that LIKE at that "
                + "HOUR.", """
            law k9p1c3
            door(0, 1, 8)
            door(5, 1, 8)
            door(0, 1, 64)
            door(0, 2, 1)
            knock({0 1}, 3) = 1
            bestHour({0..3}) = 0 3 0 0
            knock(2, 3) = 0
            bestHour(1) = 3
            knock(2, 6) = 1
            bestHour(1) = 6
            knock(3, {1..9}) = 0
            bestHour({0..3}) = 0 6 0 0
            """);
    }

    // ---- walks

    private void work() {
        term("WORK of a BLOCK: how many DOORS to be asked it has.", """
            law k3p1c3
            home 1 0 0: 5
            home 1 0 0: 5 -1
            home 1 0 0: 5
            home 1 0 1: 5
            home 2 0 0: 5
            near(1, 2)
            paper({0 1}) = 1
            knock(2, 0) = 0
            proxy(2, 1) = 1
            knock(3, 0) = 1
            cut(1) ! -6
            cut(2) = 2
            cut(3) = 1
            """);
    }

    private void walks() {
        term("BLOCKS with DOORS are parted to WALKS: each of BLOCKS that NEAR ones lead together (within the WALK), WORK no "
                + "more than a limit.", """
            door({0 2 3 5}, 0, 0)
            near(0, 1)
            near(1, 2)
            near(3, 5)
            cut(24) = 3
            walk({0..5}) = 0 -1 1 2 -1 2
            near(2, 5)
            cut(24) = 2
            walk({0..5}) = 0 -1 1 1 -1 1
            cut(2) = 3
            walk({0..5}) = 0 -1 1 2 -1 1
            cut(1) = 4
            cut(0) ! -6
            """);
    }

    private static final String CUT = "THE CUT: fewest WALKS; of these the least WORK of the WALK with the greatest; of "
            + "these that in which the WALK of the first BLOCK, then the next one, and so on, has the lesser number (WALKS "
            + "are numbered by their first BLOCKS: 0, 1, ..).";

    private void cut() {
        term(CUT, """
            door({1 1 2 2 3 3 4 4}, 0, 0)
            near(1, {2 3 4})
            near(2, {3 4})
            near(3, 4)
            cut(8) = 1
            walk({0..5}) = -1 0 0 0 0 -1
            cut(7) = 2
            walk({0..5}) = -1 0 0 1 1 -1
            cut(3) = 4
            walk({0..5}) = -1 0 1 2 3 -1
            """);
        term(CUT, """
            door({0 0 0 0 1 1 1 2 2 3}, 0, 0)
            near(0, {1 2 3})
            near(1, {2 3})
            near(2, 3)
            cut(9) = 2
            walk({0..5}) = 0 1 1 0 -1 -1
            near(4, {0 1})
            door(4, 0, 0)
            cut(9) = 2
            walk({0..5}) = 0 1 0 1 1 -1
            """);
    }

    // ---- the table

    private void tableCells() {
        term("6 rows (BLOCKS) by 4 columns (BANDS): how many HEADS of RETURNS (FILLED, too) are counted.", """
            knocked 0 0: 30 30 30 30
            knocked 5 1: 1 1 1 70 70 70 70
            knocked 5 1: -1 -1 -1 -1
            door(3, 0, 0)
            twice(0, 0, 2, 0) = 2
            fill() = 1
            table() = 0
            told(0, {0..3}) = 0 4 0 0
            told({1 2 4}, {0..3}) = 0
            told(3, {0..3}) = 0 4 0 0
            told(5, {0..3}) = 3 0 4 3
            told(7, 0) = -1
            told(0, 5) = -1
            """);
    }

    private void tableTold() {
        term("Told to all are its sums of rows and columns, and what isn't HIDDEN.", """
            cells 1: 1 7 0 6
            cells 2: 8 9 4 0
            fill() = 0
            table() = 4
            told(1, {0..4}) = -2 -2 0 6 14
            told(2, {0..4}) = -2 -2 4 0 21
            told(6, {0..4}) = 9 16 4 6 35
            could(1, 0, {false true}) = 0 8
            could(2, {2 3}, {false true}) = 4 4 0 0
            """);
    }

    private static final String SMALL = "CELLS that are above 0 and below the least cell are SMALL: HIDDEN; as few others "
            + "as may be are HIDDEN, too, so that no SMALL cell FOLLOWS: it FOLLOWS if, of all tables with the same sums, "
            + "the same told cells, and whole numbers of 0 or more in HIDDEN ones, none has another number there.";

    private void smallCells() {
        term(SMALL, """
            law k3p2c4
            cells 0: 3 4 0 0
            cells 1: 4 4 0 0
            cells 2: 0 0 9 0
            fill() = 0
            table() = 4
            told(0, {0..3}) = -2 -2 0 0
            told(1, {0..3}) = -2 -2 0 0
            told(2, {0..3}) = 0 0 9 0
            could(0, 0, {false true}) = 0 7
            law k3p2c3
            table() = 0
            told(0, {0..3}) = 3 4 0 0
            """);
        term(SMALL, """
            law k3p2c2
            cells 0: 1 0 9 0
            cells 1: 0 0 9 0
            cells 2: 9 0 9 0
            fill() = 0
            table() = 4
            told(0, {0..3}) = -2 0 -2 0
            told(1, {0..3}) = -2 0 -2 0
            told(2, {0..3}) = 9 0 9 0
            could(1, 0, {false true}) = 0 1
            """);
        term(SMALL, """
            law k3p2c2
            cells 0: 1 9 0 0
            cells 1: 0 0 0 0
            cells 2: 9 0 0 0
            fill() = 0
            table() = 4
            told(0, {0..3}) = -2 -2 0 0
            told(1, {0..3}) = 0
            told(2, {0..3}) = -2 -2 0 0
            could(2, 1, {false true}) = 0 9
            """);
    }

    private void severalSets() {
        term("Of several such sets that whose first cell (4 times the row, and the column) is least, then the second, and "
                + "so on.", """
            cells 1: 5 5 5 5
            cells 2: 5 5 5 5
            cells 4: 5 5 1 5
            fill() = 0
            table() = 4
            told(1, {0..3}) = -2 5 -2 5
            told(2, {0..3}) = 5
            told(4, {0..3}) = -2 5 -2 5
            """);
        term("Of several such sets that whose first cell (4 times the row, and the column) is least, then the second, and "
                + "so on.", """
            cells 0: 5 5 5 5
            cells 3: 5 1 1 5
            cells 4: 5 5 5 5
            fill() = 0
            table() = 4
            told(0, {0..3}) = 5 -2 -2 5
            told(3, {0..3}) = 5 -2 -2 5
            told(4, {0..3}) = 5
            """);
    }

    private void noTable() {
        term("(No TABLE if more than 4 others were needed.)", """
            law k3p2c2
            cells 0: 1 3 3 3
            cells 1: 3 1 3 3
            cells 2: 3 3 1 3
            cells 3: 3 3 3 1
            fill() = 0
            table() = 8
            told({0..3}, {0..3}) = -2 -2 3 3 -2 -2 3 3 3 3 -2 -2 3 3 -2 -2
            """);
        term("(No TABLE if more than 4 others were needed.)", """
            law k3p2c2
            cells 0: 1 3 3 3
            cells 1: 3 1 3 3
            cells 2: 3 3 1 3
            cells 3: 3 3 3 1
            cells 4: 3 3 3 1
            fill() = 0
            table() ! -6
            told(0, 0) = -1
            """);
    }

    // ---- refusals, each by every call that can answer it, with more that fit behind it

    private void nobody() {
        term("REFUSALS (the call answers the number; nothing changes but how many there were; the first that fits, in this "
                + "order): -1 NOBODY: no such SHELF, BLOCK, DOOR.", """
            door(6, 4, 1024) ! -1
            near(6, 6) ! -1
            row(8, 4, -1) ! -1
            set(8, -1, 0) ! -1
            copy(8, 0, -1, -1, -1) ! -1
            copy(0, 8, -1, -1, -1) ! -1
            show(8, -1) ! -1
            show(0, 0) ! -1
            blockIn(8) ! -1
            law(8) ! -1
            truth(0, 0) ! -1
            paper(0) ! -1
            knock(0, 10) ! -1
            proxy(0, 13) ! -1
            twice(0, -1, 0, -1) ! -1
            second(6, 0) ! -1
            second(0, 8) ! -1
            status({11..17}) = 17 0 0 0 0 0 0
            """);
        term("REFUSALS (the call answers the number; nothing changes but how many there were; the first that fits, in this "
                + "order): -1 NOBODY: no such SHELF, BLOCK, DOOR.", """
            24 times door(0, 0, 0)
            show(0, 23)
            fill() = 0
            door(-1, -1, -1) ! -1
            truth({-1 24}, 0) ! -1
            truth(0, {-1 8}) ! -1
            paper({-1 24}) ! -1
            knock({-1 24}, 10) ! -1
            proxy({-1 24}, 13) ! -1
            twice({-1 24}, 0, 23, 0) ! -1
            twice(23, 0, {-1 24}, 0) ! -1
            second({-1 6}, 0) ! -1
            second(0, {-1 8}) ! -1
            """);
    }

    private void otherAndNothing() {
        term("-2 OTHER: a SHELF that holds a DOOR where a ROW is wanted, or the other way about, or ROWS of two SORTS.", """
            door(0, 0, 0)
            show(0, 0)
            row(1, 2, 1)
            row(2, 3, 1)
            set(0, -1, 0) ! -2
            copy(0, 3, -1, -1, -1) ! -2
            copy(3, 0, -1, -1, -1) ! -2
            copy(0, 1, -1, -1, -1) ! -2
            copy(1, 0, -1, -1, -1) ! -2
            copy(1, 2, -1, -1, -1) ! -2
            copy(2, 1, -1, -1, -1) ! -2
            blockIn(1) ! -2
            law(0) ! -2
            truth(0, 0) ! -2
            second(0, 0) ! -2
            fill() = 0
            truth(0, 0) ! -2
            status({11..17}) = 0 12 0 0 0 0 0
            """);
        term("-3 NOTHING: a SHELF that holds NOTHING.", """
            door(0, 0, 0)
            row(1, 2, 1)
            set(0, -1, 0) ! -3
            copy(0, 1, -1, -1, -1) ! -3
            copy(1, 0, -1, -1, -1) ! -3
            copy(0, 7, -1, -1, -1) ! -3
            blockIn(0) ! -3
            law(0) ! -3
            truth(0, 0) ! -3
            second(0, 0) ! -3
            show(1, -1) = 0
            set(1, 0, 0) ! -3
            fill() = 0
            truth(0, 0) ! -3
            status({11..17}) = 0 0 10 0 0 0 0
            """);
    }

    private void belowAndBeyond() {
        term("-4 BELOW: a size below 0.", """
            row(0, 2, 3)
            row(0, 2, {-1 MIN}) ! -4
            row(0, 4, {-1 MIN}) ! -4
            copy(0, 0, 0, 0, {-1 MIN}) ! -4
            copy(0, 0, -1, 4, {-1 MIN}) ! -4
            status({11..17}) = 0 0 0 8 0 0 0
            """);
        term("-5 BEYOND: an element that isn't there.", """
            knocked 0 0: 5 6
            knocked 0 1: 7
            row 0 2: 100
            set(0, {-1 1}, 0) ! -5
            copy(0, 0, 1, 0, 1) ! -5
            copy(0, 0, 0, 1, 1) ! -5
            twice(0, {-1 2}, 1, 0) ! -5
            twice(0, 0, 1, {-1 1}) ! -5
            twice(0, 2, 0, 0) ! -5
            second(0, 0) ! -5
            door(1, 0, 0)
            fill() = 1
            twice(2, 2, 0, 0) ! -5
            status({11..17}) = 0 0 0 0 11 0 0
            """);
    }

    private static final String WRONG = "-6 WRONG: a number that may not be, a FAULT, the field is CLOSED (or not), what "
            + "can't be as things stand.";

    private void wrong() {
        term(WRONG, """
            home 0 0 1: 5 6
            home 0 0 1: 5 -1
            knocked 0 0: 5
            row 0 0: 'k' '9' 'p' '9' 'c'
            door(0, 4, 0) ! -6
            door(0, 0, 1024) ! -6
            near(2, 2) ! -6
            row(1, 4, 31) ! -6
            law(0) ! -6
            knock(0, 10) ! -6
            paper(2) ! -6
            knock(2, 0) ! -6
            proxy(2, 1) ! -6
            proxy(0, 1) ! -6
            paper(1) = 1
            paper(1) ! -6
            3 times knock(1, 1) = 0
            knock(1, 1) ! -6
            proxy(1, 13) ! -6
            proxy(1, 2) = 2
            proxy(1, 2) ! -6
            twice(1, 0, 1, 1) ! -6
            twice(1, 0, 2, 0) = 2
            twice(1, 1, 2, 0) ! -6
            cut(25) ! -6
            cut(1) ! -6
            second(0, 0) ! -6
            table() ! -6
            status({11..17}) = 0 0 0 0 0 20 0
            """);
    }

    private void wrongWhenClosed() {
        term(WRONG, """
            home 0 0 0: 5
            home 0 1 0: 5
            paper(0) = 1
            2 times knock(1, 0) = 0
            door(0, 0, 0)
            21 times door(0, 2, 0)
            row(0, 2, 13)
            fill() = 1
            door(0, 0, 0) ! -6
            truth(0, 0) ! -6
            paper(1) ! -6
            knock(1, 0) ! -6
            proxy(1, 1) ! -6
            twice(0, 0, 2, 0) ! -6
            fill() ! -6
            table() ! -6
            status({11..17}) = 0 0 0 0 0 8 0
            """);
    }

    private void room() {
        term("-7 ROOM: more than may be.", """
            row(0, 2, {31 MAX}) ! -7
            row(0, 2, 13)
            24 times door(0, 0, 0)
            door(5, 3, 1023) ! -7
            truth(23, 0) ! -7
            status({11..17}) = 0 0 0 0 0 0 4
            """);
    }
}
