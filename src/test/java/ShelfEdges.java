/** Boundary cases of promises 1 to 10: a new object, doors, near blocks, shelves and their rows. */
final class ShelfEdges {
    private final Edges edges;

    ShelfEdges(Edges edges) {
        this.edges = edges;
    }

    void play() {
        newObject();
        limitOfCalls();
        door();
        near();
        row();
        set();
        copy();
        copyRefusals();
        element();
        show();
        holds();
        blockIn();
    }

    private void newObject() {
        edges.edge(1, "No DOORS", """
            status({0..9}) = 0
            about({-1 0 1 23}, {0..5}) = -1
            age(0, 0) = -1
            from(0) = -1
            count({0..5}, {0..3}, {false true}) = 0
            heap() = 100
            right(false) = 0
            right(true) = 1
            bestHour({0..3}) = 0
            show(0, 0) ! -1
            paper(0) ! -1
            knock(0, 0) ! -1
            proxy(0, 0) ! -1
            """);
        edges.edge(1, "no BLOCKS are NEAR", """
            near(0, {1..5}) = 1
            near(1, {2..5}) = 1
            near(2, {3..5}) = 1
            near(3, {4..5}) = 1
            near(4, 5) = 1
            """);
        edges.edge(1, "no BLOCKS are NEAR", """
            door({0..5}, 0, 0) = 0 1 2 3 4 5
            cut(24) = 6
            walk({0..5}) = 0 1 2 3 4 5
            """);
        edges.edge(1, "SHELVES 0 to 7 hold NOTHING (at first), a ROW, or a DOOR.", """
            holds({0..7}) = -1
            element({0..7}, {0 29}) = 0
            set({0..7}, 0, 1) ! -3
            blockIn({0 7}) ! -3
            """);
        edges.edge(1, "like k3p2c3, which it is at first", """
            status({18..20}) = 3 2 3
            fault() = -1
            door(0, 0, 0) = 0
            knock(0, 0) = 0
            proxy(0, 1) ! -6
            knock(0, 0) = 0
            proxy(0, 1) = 1
            knock(0, 0) = 0
            knock(0, 0) ! -6
            """);
        edges.edge(1, "like k3p2c3, which it is at first", """
            cells 0: 2 3 0 0
            cells 1: 3 2 0 0
            fill() = 0
            table() = 4
            told(0, {0 1}) = -2
            told(1, {0 1}) = -2
            """);
        edges.edge(1, "11 to 17: REFUSALS -1 to -7", """
            status({11..17}) = 0
            """);
        edges.edge(1, "(No TABLE if more than 4 others were needed.)", """
            told({0 6}, {0 4}) = -1
            could(0, 0, {false true}) = -1
            walk({0..5}) = -1
            """);
    }

    private void limitOfCalls() {
        edges.edge(1, "An object is used for at most 512 calls after it has been made", """
            511 times paper(0) = -1
            status(11) = 511
            """);
        edges.edge(1, "An object is used for at most 512 calls after it has been made", """
            row(0, 3, 30)
            509 times set(0, 29, LMIN) = 1
            set(0, 29, LMAX) = 1
            element(0, 29) = LMAX
            """);
    }

    private void door() {
        edges.edge(2, "A new DOOR: its number.", """
            door(3, 2, 4) = 0
            status(0) = 1
            door(3, 2, 4) = 1
            door(3, 4, 4) ! -6
            door(3, 2, 4) = 2
            status(0) = 3
            about({0..3}, {0 2 4}) = 0 0 0 0 0 0 0 0 0 -1 -1 -1
            show(0, 2)
            blockIn(0) = 3
            knock({0..2}, 2) = 1
            bestHour(2) = 2
            """);
        edges.edge(2, "BLOCKS are 0 to 5.", """
            door(0, 0, 0) = 0
            door(5, 0, 0) = 1
            door({-1 6 MIN MAX}, 0, 0) ! -1
            show(0, 0)
            blockIn(0) = 0
            show(0, 1)
            blockIn(0) = 5
            """);
        edges.edge(2, "a LIKE 0 to 3", """
            door(0, 0, 0) = 0
            door(0, 3, 0) = 1
            door(0, {-1 4 MIN MAX}, 0) ! -6
            """);
        edges.edge(2, "HOURS at which somebody is in (bits 0 to 9)", """
            door(0, 0, 0) = 0
            door(0, 0, 1) = 1
            door(0, 0, 512) = 2
            door(0, 0, 1023) = 3
            door(0, 0, {-1 1024 1025 MIN MIN+1 MIN+1023 MAX}) ! -6
            law k9p1c3
            knock(0, {0..8}) = 0
            knock(1, {1..8}) = 0
            knock(1, 0) = 1
            knock(2, {0..7}) = 0
            knock(2, 9) = 1
            knock(3, 5) = 1
            """);
        edges.edge(2, "DOORS have numbers, from 0 on, 24 at most", """
            door(0, 0, {0..23}) = 0 1 2 3 4 5 6 7 8 9 10 11 12 13 14 15 16 17 18 19 20 21 22 23
            door(0, 0, 0) ! -7
            door(5, 3, 1023) ! -7
            status(0) = 24
            status(17) = 2
            """);
        edges.edge(2, "-1; -6 LIKE, HOURS, CLOSED; -7.", """
            24 times door(0, 0, 0)
            door(0, 0, 0) ! -7
            door(0, 4, 0) ! -6
            door(0, 0, 1024) ! -6
            door(6, 4, 1024) ! -1
            fill() = 0
            door(0, 0, 0) ! -6
            door(-1, 0, 0) ! -1
            """);
        edges.edge(2, "-1; -6 LIKE, HOURS, CLOSED; -7.", """
            fill() = 0
            door(0, 0, 0) ! -6
            door(6, 0, 0) ! -1
            status(0) = 0
            """);
    }

    private void near() {
        edges.edge(3, "Two BLOCKS are NEAR: 1, 0 if they were.", """
            near(0, 5) = 1
            near(0, 5) = 0
            near(5, 0) = 0
            near(5, 4) = 1
            near(4, 5) = 0
            near(0, 4) = 1
            """);
        edges.edge(3, "Two BLOCKS are NEAR: 1, 0 if they were.", """
            near(5, {0..4}) = 1
            near(4, {0..3}) = 1
            near(3, {0..2}) = 1
            near(2, {0..1}) = 1
            near(1, 0) = 1
            near(0, {1..5}) = 0
            near(1, {0 2 3 4 5}) = 0
            near(2, {0 1 3 4 5}) = 0
            near(3, {0 1 2 4 5}) = 0
            near(4, {0 1 2 3 5}) = 0
            near(5, {0..4}) = 0
            """);
        edges.edge(3, "BLOCKS are 0 to 5.", """
            near({-1 6 MIN MAX}, 0) ! -1
            near(5, {-1 6 MIN MAX}) ! -1
            near(0, 5) = 1
            """);
        edges.edge(3, "-1; -6 they are one.", """
            near(0, 0) ! -6
            near(5, 5) ! -6
            near({-1 6 MIN MAX}, {-1 6 MIN MAX}) ! -1
            """);
        edges.edge(3, "Two BLOCKS are NEAR: 1, 0 if they were.", """
            door(0, 0, 0)
            door(1, 0, 0)
            cut(24) = 2
            fill() = 0
            near(0, 1) = 1
            walk(1) = 1
            cut(24) = 1
            """);
    }

    private void row() {
        edges.edge(4, "and 0 to 30 elements, 0 at first", """
            row(0, 0, 0) = 1
            element(0, 0) = 0
            set(0, 0, 1) ! -5
            row(0, 3, 1) = 1
            element(0, 0) = 0
            row(0, 3, 30) = 1
            set(0, {0..29}, LMAX) = 1
            element(0, {0..29}) = LMAX
            row(0, 3, 30) = 1
            element(0, {0..29}) = 0
            """);
        edges.edge(4, "and 0 to 30 elements, 0 at first", """
            row 0 2: 1 2 3
            row(0, 2, 2) = 1
            row(0, 2, 3) = 1
            element(0, {0..3}) = 0
            row 0 2: 1 2 3
            show(0, -1) = 0
            row(0, 2, 3) = 1
            element(0, {0..3}) = 0
            """);
        edges.edge(4, "-1; -4; -6 SORT; -7 n above 30.", """
            row 3 2: 7
            row(3, 2, {31 MAX}) ! -7
            row(3, 2, {-1 MIN}) ! -4
            row(3, {-1 4 MIN MAX}, 1) ! -6
            row({-1 8 MIN MAX}, 2, 1) ! -1
            element(3, 0) = 7
            """);
        edges.edge(4, "A ROW has a SORT (0 bytes, 1 shorts, 2 ints, 3 longs)", """
            row(0, {0..3}, 30) = 1
            row(7, 0, 0) = 1
            row(7, 3, 30) = 1
            holds(0) = 103
            row(0, 0, 1) = 1
            holds(0) = 100
            """);
        edges.edge(4, "(the call answers the number; nothing changes but how many there were; the first that fits, in this order)", """
            row({-1 8}, 4, -1) ! -1
            row(-1, 4, 31) ! -1
            row(0, 4, -1) ! -4
            row(0, -1, MIN) ! -4
            row(0, 4, 31) ! -6
            row(0, -1, MAX) ! -6
            holds(0) = -1
            """);
        edges.edge(4, "SHELF s holds a new ROW: 1.", """
            door(4, 0, 0)
            show(2, 0)
            row(2, 1, 2) = 1
            holds(2) = 101
            row(2, 2, 31) ! -7
            holds(2) = 101
            fill()
            row(2, 3, 0) = 1
            holds(2) = 103
            """);
    }

    private void set() {
        edges.edge(5, "Element i of the ROW becomes v: 1.", """
            row(0, 2, 3)
            set(0, 0, 5) = 1
            set(0, 2, 7) = 1
            element(0, {0..2}) = 5 0 7
            set(0, {-1 3 30 MIN MAX}, 9) ! -5
            row(0, 2, 1)
            set(0, 0, 9) = 1
            set(0, {1 2}, 9) ! -5
            row(0, 2, 0)
            set(0, {0 -1}, 9) ! -5
            row(0, 2, 30)
            set(0, 29, 9) = 1
            set(0, 30, 9) ! -5
            """);
        edges.edge(5, "what is put in keeps its lowest bits", """
            row 0 0: 127 128 -128 -129 255 256 MIN MAX LMIN LMAX 2^32+5 2^31
            element(0, {0..11}) = 127 -128 -128 127 -1 0 0 -1 0 -1 5 0
            """);
        edges.edge(5, "what is put in keeps its lowest bits", """
            row 0 1: 32767 32768 -32768 -32769 65535 65536 MIN MAX LMIN LMAX 2^32+5 128
            element(0, {0..11}) = 32767 -32768 -32768 32767 -1 0 0 -1 0 -1 5 128
            """);
        edges.edge(5, "what is put in keeps its lowest bits", """
            row 0 2: MAX 2^31 MIN MIN-1 2^32-1 2^32 LMIN LMAX 2^32+5 32768 LMIN+7
            element(0, {0..10}) = MAX MIN MIN MAX -1 0 0 -1 5 32768 7
            """);
        edges.edge(5, "what is put in keeps its lowest bits", """
            row 0 3: LMIN LMAX 2^31 2^32 MIN -1 2^63 LMIN+1 LMAX-1
            element(0, {0..8}) = LMIN LMAX 2^31 2^32 MIN -1 LMIN LMIN+1 LMAX-1
            """);
        edges.edge(5, "-1; -2; -3; -5.", """
            door(0, 0, 0)
            show(1, 0)
            row(0, 0, 1)
            row(7, 0, 1)
            set({-1 8 MIN MAX}, 0, 1) ! -1
            set(1, {-1 0 30}, 1) ! -2
            set(2, {-1 0 30}, 1) ! -3
            set(0, 1, 1) ! -5
            set(7, 0, 1) = 1
            """);
    }

    private void copy() {
        edges.edge(6, "come to elements j, j + 1, .. of that in q (as they were ahead): 1.", """
            row 0 2: 1 2 3 4 5
            copy(0, 0, 0, 1, 4) = 1
            element(0, {0..4}) = 1 1 2 3 4
            row 0 2: 1 2 3 4 5
            copy(0, 0, 1, 0, 4) = 1
            element(0, {0..4}) = 2 3 4 5 5
            copy(0, 0, 0, 0, 5) = 1
            element(0, {0..4}) = 2 3 4 5 5
            """);
        edges.edge(6, "n of them, come to elements j, j + 1, .. of that in q", """
            row 0 1: 1 2 3 4 5
            row 1 1: 11 12 13 14 15
            copy(0, 1, 1, 2, 2) = 1
            element(1, {0..5}) = 11 12 2 3 15 0
            element(0, {0..4}) = 1 2 3 4 5
            copy(0, 1, 4, 4, 1) = 1
            element(1, {0..4}) = 11 12 2 3 5
            copy(0, 1, 0, 0, 0) = 1
            element(1, {0..4}) = 11 12 2 3 5
            """);
        edges.edge(6, "n of them, come to elements j, j + 1, .. of that in q", """
            row 0 3: 1 2 3 4 5 6 7 8 9 10 11 12 13 14 15 16 17 18 19 20 21 22 23 24 25 26 27 28 29 LMIN
            row(7, 3, 30)
            copy(0, 7, 0, 0, 30) = 1
            element(7, {0..29}) = 1 2 3 4 5 6 7 8 9 10 11 12 13 14 15 16 17 18 19 20 21 22 23 24 25 26 27 28 29 LMIN
            copy(0, 7, 0, 0, 31) ! -5
            copy(0, 7, 1, 0, 30) ! -5
            copy(0, 7, 0, 1, 30) ! -5
            """);
        edges.edge(6, "Elements i, i + 1, .. of the ROW in SHELF p", """
            row 0 0: -128 127
            row(1, 0, 2)
            copy(0, 1, 0, 0, 2) = 1
            element(1, {0 1}) = -128 127
            row 0 1: -32768 32767
            row(1, 1, 2)
            copy(0, 1, 0, 0, 2) = 1
            element(1, {0 1}) = -32768 32767
            row 0 2: MIN MAX
            row(1, 2, 2)
            copy(0, 1, 0, 0, 2) = 1
            element(1, {0 1}) = MIN MAX
            row 0 3: LMIN LMAX
            row(1, 3, 2)
            copy(0, 1, 0, 0, 2) = 1
            element(1, {0 1}) = LMIN LMAX
            """);
        edges.edge(6, "-5 i or j below 0, or an end that isn't there", """
            row 0 2: 1 2 3
            row 1 2: 4 5
            copy(0, 1, 3, 2, 0) = 1
            copy(0, 1, 1, 0, 2) = 1
            element(1, {0 1}) = 2 3
            copy(0, 1, 2, 0, 2) ! -5
            copy(0, 1, 0, 1, 2) ! -5
            copy(0, 1, 0, 0, 3) ! -5
            copy(0, 1, 4, 0, 0) ! -5
            copy(0, 1, 0, 3, 0) ! -5
            copy(0, 1, {-1 MIN}, 0, {0 1 MAX}) ! -5
            copy(0, 1, 0, {-1 MIN}, {0 1 MAX}) ! -5
            """);
        edges.edge(6, "-5 i or j below 0, or an end that isn't there", """
            row 0 2: 1 2 3
            row 1 2: 4 5 6
            copy(0, 1, {0 1 3 MAX}, 0, MAX) ! -5
            copy(0, 1, 0, {1 3 MAX}, MAX) ! -5
            copy(0, 1, {MAX MAX-1}, 0, {0 1 2 3}) ! -5
            copy(0, 1, 0, {MAX MAX-1}, {0 1 2 3}) ! -5
            element(1, {0..2}) = 4 5 6
            """);
        edges.edge(6, "-5 i or j below 0, or an end that isn't there", """
            row(0, 2, 0)
            row(1, 2, 0)
            copy(0, 1, 0, 0, 0) = 1
            copy(0, 0, 0, 0, 0) = 1
            copy(0, 1, 0, 0, 1) ! -5
            copy(0, 1, {-1 1}, 0, 0) ! -5
            copy(0, 1, 0, {-1 1}, 0) ! -5
            """);
    }

    private void copyRefusals() {
        edges.edge(6, "-2 also of two SORTS (when both hold something)", """
            row({0..3}, 0, 1)
            row(1, 1, 1)
            row(2, 2, 1)
            row(3, 3, 1)
            copy({0..3}, 0, 0, 0, 1) = 1 -2 -2 -2
            copy({0..3}, 1, 0, 0, 1) = -2 1 -2 -2
            copy({0..3}, 2, 0, 0, 1) = -2 -2 1 -2
            copy({0..3}, 3, 0, 0, 1) = -2 -2 -2 1
            status(12) = 12
            copy(0, 1, 0, 0, 1) ! -2
            copy(3, 2, 0, 0, 0) ! -2
            copy({0..3}, 7, 0, 0, 1) ! -3
            copy(7, {0..3}, 0, 0, 1) ! -3
            """);
        edges.edge(6, "-1; -2 also of two SORTS (when both hold something); -3 either; -4 n;", """
            row(0, 2, 1)
            copy(0, 1, 0, 0, 1) ! -3
            copy(1, 0, 0, 0, 1) ! -3
            copy(1, 1, 0, 0, 0) ! -3
            copy(1, 2, 0, 0, 0) ! -3
            """);
        edges.edge(6, "-4 n; -5 i or j below 0", """
            row 0 2: 1 2
            copy(0, 0, 0, 0, {-1 MIN}) ! -4
            copy(0, 0, -1, 9, -1) ! -4
            copy(0, 0, -1, 9, 0) ! -5
            """);
        edges.edge(6, "-2 OTHER: a SHELF that holds a DOOR where a ROW is wanted", """
            door(0, 0, 0)
            show(0, 0)
            row(1, 2, 1)
            copy({0 1}, 0, 0, 0, 1) ! -2
            copy(0, 1, 0, 0, 1) ! -2
            copy(0, 2, 0, 0, 1) ! -2
            copy(2, 0, 0, 0, 1) ! -2
            """);
        edges.edge(6, "the first that fits, in this order", """
            door(0, 0, 0)
            show(0, 0)
            row(1, 2, 1)
            row(2, 3, 1)
            copy({-1 8 MIN MAX}, 0, -1, -1, -1) ! -1
            copy(0, {-1 8 MIN MAX}, -1, -1, -1) ! -1
            copy(8, 8, 0, 0, 0) ! -1
            copy(0, 3, -1, -1, -1) ! -2
            copy(1, 2, -1, -1, -1) ! -2
            copy(1, 3, -1, -1, -1) ! -3
            copy(3, 1, 9, 9, -1) ! -3
            copy(1, 1, -1, -1, -1) ! -4
            copy(1, 1, 0, 2, 0) ! -5
            """);
    }

    private void element() {
        edges.edge(7, "Element i of the ROW; 0 if there is none (nothing is refused).", """
            row 0 3: LMIN LMAX
            row 7 0: -128
            row(1, 2, 0)
            door(0, 0, 0)
            show(2, 0)
            element(0, {0 1}) = LMIN LMAX
            element(7, 0) = -128
            element(0, {-1 2 29 30 MIN MAX}) = 0
            element(1, {-1 0 1}) = 0
            element(2, {-1 0 1}) = 0
            element(3, {-1 0 1}) = 0
            element({-1 8 MIN MAX}, 0) = 0
            status({11..17}) = 0
            """);
        edges.edge(7, "Element i of the ROW; 0 if there is none (nothing is refused).", """
            row 0 2: 1 2 3
            row(0, 2, 1)
            element(0, {0 1 2}) = 0
            row 0 2: 1 2 3
            row(0, 2, 3)
            element(0, {0 1 2}) = 0
            row 0 2: 1 2 3
            show(0, -1)
            element(0, {0 1 2}) = 0
            """);
    }

    private void show() {
        edges.edge(8, "SHELF s holds a DOOR: 1; NOTHING (door NONE): 0.", """
            door({0..5}, 0, 0)
            show(0, 0) = 1
            show(7, 5) = 1
            holds({0 7}) = 0 5
            show(0, 5) = 1
            holds(0) = 5
            show(0, -1) = 0
            holds(0) = -1
            show(0, -1) = 0
            row 7 3: 1
            show(7, 0) = 1
            holds(7) = 0
            element(7, 0) = 0
            row 7 3: 1
            show(7, -1) = 0
            holds(7) = -1
            """);
        edges.edge(8, "-1 either.", """
            show(0, 0) ! -1
            show(0, -1) = 0
            door(0, 0, 0)
            show(0, 0) = 1
            show(0, {-2 1 24 MIN MAX}) ! -1
            show({-1 8 MIN MAX}, 0) ! -1
            show({-1 8}, -1) ! -1
            show({-1 8}, {-2 1}) ! -1
            holds(0) = 0
            """);
        edges.edge(8, "-1 either.", """
            24 times door(0, 0, 0)
            show(1, 23) = 1
            show(1, 24) ! -1
            fill()
            show(1, 0) = 1
            holds(1) = 0
            """);
    }

    private void holds() {
        edges.edge(9, "What SHELF s holds: NONE NOTHING, or no such SHELF; the number of a DOOR; 100 and the SORT of a ROW.", """
            24 times door(0, 0, 0)
            row(0, 0, 0)
            row(1, 1, 30)
            row(2, 2, 0)
            row(3, 3, 0)
            show(4, 0)
            show(7, 23)
            holds({0..7}) = 100 101 102 103 0 -1 -1 23
            holds({-1 8 MIN MAX}) = -1
            status({11..17}) = 0
            """);
    }

    private void blockIn() {
        edges.edge(10, "The BLOCK of the DOOR in SHELF s. -1; -2; -3.", """
            door({0..5}, 0, 0)
            show(0, 0)
            show(7, 5)
            row(1, 0, 0)
            blockIn({0 7}) = 0 5
            blockIn({-1 8 MIN MAX}) ! -1
            blockIn(1) ! -2
            blockIn(2) ! -3
            show(0, -1)
            blockIn(0) ! -3
            fill()
            blockIn(7) = 5
            """);
    }
}
