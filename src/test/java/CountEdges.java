/** Boundary cases of promises 22 to 28 and 32: counts, hours, walks, the second count, heaps, and how many. */
final class CountEdges {
    private final Edges edges;

    CountEdges(Edges edges) {
        this.edges = edges;
    }

    void play() {
        count();
        bestHour();
        cutLimits();
        cutOrder();
        walk();
        second();
        secondRefusals();
        right();
        rightEnds();
        heap();
        status();
        statusOfDoors();
        statusOfRefusals();
    }

    private void count() {
        edges.edge(22, "BANDS of HEADS: 0 AGE 0 to 17, 1 18 to 64, 2 65 to 110, 3 no AGE told.", """
            knocked 0 0: 0
            count(0, {0..3}, true) = 1 0 0 0
            knocked 1 0: 17
            count(1, {0..3}, true) = 1 0 0 0
            knocked 2 0: 18
            count(2, {0..3}, true) = 0 1 0 0
            knocked 3 0: 64
            count(3, {0..3}, true) = 0 1 0 0
            knocked 4 0: 65
            count(4, {0..3}, true) = 0 0 1 0
            knocked 5 0: 110
            count(5, {0..3}, true) = 0 0 1 0
            knocked 5 0: 111
            count(5, {0..3}, true) = 0 0 1 1
            knocked 5 0: -1
            count(5, {0..3}, true) = 0 0 1 2
            """);
        edges.edge(22, "HEADS of RETURNS of a BLOCK in a BAND that are counted; without FILLED ones (with false).", """
            knocked 5 0: 5 30 70 -1
            knocked 4 1: 5
            door(5, 0, 0)
            door(0, 0, 0)
            twice(0, 0, 1, 0) = 1
            count(5, {0..3}, true) = 1
            count(4, 0, true) = 0
            fill() = 2
            count(5, {0..3}, true) = 2
            count(5, {0..3}, false) = 1
            count(0, {0..3}, true) = 1
            count(0, {0..3}, false) = 0
            count({1..4}, {0..3}, true) = 0
            """);
        edges.edge(22, "HEADS of RETURNS of a BLOCK in a BAND that are counted; without FILLED ones (with false).", """
            row 0 2: 65 65 65 65 65 65 65 65 65 65 65 65
            24 times door(5, 0, 1)
            truth({0..23}, 0) = 12
            knock({0..23}, 0) = 1
            count(5, {0..3}, {false true}) = 0 0 0 0 288 288 0 0
            status(3) = 288
            """);
        edges.edge(22, "NONE: no such BLOCK, BAND.", """
            knocked 0 0: 5
            knocked 5 0: -1
            count({-1 6 MIN MAX}, 0, true) = -1
            count(0, {-1 4 MIN MAX}, {false true}) = -1
            count(0, 0, true) = 1
            count(5, 3, false) = 1
            status({11..17}) = 0
            """);
        edges.edge(22, "NONE: no such BLOCK, BAND.", """
            count({0..5}, {0..3}, true) = 0
            count({-1 6}, {0..3}, true) = -1
            """);
    }

    private void bestHour() {
        edges.edge(23, "The HOUR of the greatest CHANCE for a LIKE, of several the least; NONE: no such LIKE.", """
            bestHour({-1 0 1 2 3 4 MIN MAX}) = -1 0 0 0 0 -1 -1 -1
            status({11..17}) = 0
            """);
        edges.edge(23, "(answers and 1) by (KNOCKS and 2), of all KNOCKS at DOORS of that LIKE at that HOUR", """
            law k9p1c3
            door(0, 3, 0)
            knock(0, 0) = 0
            bestHour({0..3}) = 0 0 0 1
            knock(0, {1..8}) = 0
            bestHour({0..3}) = 0 0 0 9
            door(1, 3, 0)
            knock(1, 9) = 0
            bestHour(3) = 0
            knock(1, {0..7}) = 0
            bestHour(3) = 8
            """);
        edges.edge(23, "(answers and 1) by (KNOCKS and 2), of all KNOCKS at DOORS of that LIKE at that HOUR", """
            law k9p1c3
            6 times door(0, 0, 512)
            door(0, 1, 256)
            knock(0, 9) = 1
            bestHour(0) = 9
            knock(6, 8) = 1
            bestHour({0 1}) = 9 8
            door(0, 0, 1)
            knock(7, 0) = 1
            bestHour(0) = 0
            knock(1, 9) = 1
            bestHour(0) = 9
            """);
        edges.edge(23, "of several the least", """
            law k9p1c3
            4 times door(0, 0, 512)
            door(0, 0, 16)
            door(0, 0, 0)
            knock({0 1 2}, 9) = 1
            knock(5, 9) = 0
            bestHour(0) = 9
            knock(4, 4) = 1
            bestHour(0) = 4
            knock(3, 9) = 1
            bestHour(0) = 9
            """);
        edges.edge(23, "of several the least", """
            door(0, 2, 1)
            knock(0, 9) = 0
            knock(0, 0) = 1
            knock(0, 0) ! -6
            bestHour(2) = 0
            door(0, 2, 0)
            knock(1, 0) = 0
            bestHour(2) = 0
            knock(1, 0) = 0
            bestHour(2) = 1
            """);
    }

    private void cutLimits() {
        edges.edge(24, "THE CUT by a limit 0 to 24: how many WALKS.", """
            door(0, 0, 0)
            cut({-1 25 MIN MAX}) ! -6
            cut(0) ! -6
            cut(1) = 1
            cut(24) = 1
            cut(25) ! -6
            walk(0) = 0
            """);
        edges.edge(24, "0: no BLOCK has DOORS.", """
            near(0, 1)
            cut({0 1 24}) = 0
            walk({0..5}) = -1
            cut({-1 25 MIN MAX}) ! -6
            """);
        edges.edge(24, "-6 the limit, there is none (a BLOCK has more WORK).", """
            24 times door(2, 0, 0)
            cut(24) = 1
            cut({0 22 23}) ! -6
            walk({0..5}) = -1 -1 0 -1 -1 -1
            paper(0) = 0
            cut(23) = 1
            cut(22) ! -6
            """);
        edges.edge(24, "WORK no more than a limit", """
            door({0 1 1 2 2 2}, 0, 0)
            near(0, 1)
            near(1, 2)
            cut(6) = 1
            cut(5) = 2
            walk({0..5}) = 0 0 1 -1 -1 -1
            cut(3) = 2
            walk({0..5}) = 0 0 1 -1 -1 -1
            cut(2) ! -6
            """);
        edges.edge(24, "WORK of a BLOCK: how many DOORS to be asked it has.", """
            law k3p1c3
            home 0 0 1: 5
            home 0 0 1: 5 -1
            home 0 0 1: 5
            home 0 0 1: 5
            home 0 0 1: 5
            cut(4) ! -6
            cut(5) = 1
            paper(0) = 1
            cut(3) ! -6
            cut(4) = 1
            paper(1) = 1
            knock(2, 1) = 0
            proxy(2, 1) = 1
            cut(3) ! -6
            knock(3, 0) = 1
            cut(2) ! -6
            cut(3) = 1
            knock({1 2}, 0) = 1
            cut(0) ! -6
            cut(1) = 1
            fill() = 1
            cut(0) = 1
            """);
        edges.edge(24, "WORK of a BLOCK: how many DOORS to be asked it has.", """
            door(0, 0, 0)
            door(0, 1, 0)
            fill() = 0
            cut(1) ! -6
            cut(2) = 1
            """);
        edges.edge(24, "BLOCKS with DOORS are parted to WALKS", """
            knocked 0 0: 5
            knocked 1 0: 5
            knocked 2 0: 5
            near(0, 1)
            near(1, 2)
            cut(0) = 1
            walk({0..5}) = 0 0 0 -1 -1 -1
            """);
    }

    private void cutOrder() {
        edges.edge(24, "each of BLOCKS that NEAR ones lead together (within the WALK)", """
            door({0 2 4}, 0, 0)
            near(0, 1)
            near(1, 2)
            near(4, 5)
            cut(24) = 3
            walk({0..5}) = 0 -1 1 -1 2 -1
            door(1, 0, 0)
            cut(24) = 2
            walk({0..5}) = 0 0 0 -1 1 -1
            cut(2) = 3
            walk({0..5}) = 0 0 1 -1 2 -1
            cut(1) = 4
            walk({0..5}) = 0 1 2 -1 3 -1
            """);
        edges.edge(24, "each of BLOCKS that NEAR ones lead together (within the WALK)", """
            door({0..5}, 0, 0)
            near(0, 5)
            near(5, 1)
            near(1, 4)
            near(4, 2)
            near(2, 3)
            cut(24) = 1
            cut(6) = 1
            walk({0..5}) = 0
            cut(5) = 2
            walk({0..5}) = 0 0 1 1 1 0
            cut(3) = 2
            walk({0..5}) = 0 0 1 1 1 0
            cut(2) = 3
            walk({0..5}) = 0 1 2 2 1 0
            cut(1) = 6
            walk({0..5}) = 0 1 2 3 4 5
            """);
        edges.edge(24, "THE CUT: fewest WALKS; of these the least WORK of the WALK with the greatest", """
            door({0 0 0 1 2 3}, 0, 0)
            near(0, 1)
            near(1, 2)
            near(2, 3)
            cut(5) = 2
            walk({0..5}) = 0 1 1 1 -1 -1
            cut(3) = 2
            walk({0..5}) = 0 1 1 1 -1 -1
            cut(2) ! -6
            """);
        edges.edge(24, "THE CUT: fewest WALKS; of these the least WORK of the WALK with the greatest", """
            door({0 1 1 2 2}, 0, 0)
            door({3 3 3}, 0, 0)
            near(0, {1 2 3})
            near(1, {2 3})
            near(2, 3)
            cut(7) = 2
            walk({0..5}) = 0 1 1 0 -1 -1
            cut(4) = 2
            walk({0..5}) = 0 1 1 0 -1 -1
            cut(3) = 3
            walk({0..5}) = 0 0 1 2 -1 -1
            """);
        edges.edge(24, "has the lesser number (WALKS are numbered by their first BLOCKS: 0, 1, ..)", """
            door({0..3}, 0, 0)
            near(0, {1 2 3})
            near(1, {2 3})
            near(2, 3)
            cut(3) = 2
            walk({0..5}) = 0 0 1 1 -1 -1
            cut(2) = 2
            walk({0..5}) = 0 0 1 1 -1 -1
            """);
        edges.edge(24, "has the lesser number (WALKS are numbered by their first BLOCKS: 0, 1, ..)", """
            door({5 3 2 2 4}, 0, 0)
            near(2, {3 4 5})
            cut(4) = 2
            walk({0..5}) = -1 -1 0 0 0 1
            cut(3) = 3
            walk({0..5}) = -1 -1 0 0 1 2
            """);
    }

    private void walk() {
        edges.edge(25, "The WALK of a BLOCK by the latest cut() that was not refused; NONE.", """
            walk({-1 0 5 6 MIN MAX}) = -1
            door({1 5}, 0, 0)
            walk({1 5}) = -1
            cut(0) ! -6
            walk({1 5}) = -1
            cut(1) = 2
            walk({0..5}) = -1 0 -1 -1 -1 1
            walk({-1 6 MIN MAX}) = -1
            near(1, 5)
            door(0, 0, 0)
            walk({0..5}) = -1 0 -1 -1 -1 1
            cut(0) ! -6
            cut(25) ! -6
            walk({0..5}) = -1 0 -1 -1 -1 1
            cut(2) = 2
            walk({0..5}) = 0 1 -1 -1 -1 1
            status({11 16}) = 0 3
            """);
        edges.edge(25, "The WALK of a BLOCK by the latest cut() that was not refused; NONE.", """
            cut(24) = 0
            door({0..5}, 0, 0)
            walk({0..5}) = -1
            cut(24) = 6
            walk({0..5}) = 0 1 2 3 4 5
            """);
    }

    private void second() {
        edges.edge(26, "one element (as an int) for each of its DOORS as they are by numbers, 0 to 99: their sum", """
            knocked 0 0: 5 6 7
            knocked 1 0: 5
            knocked 0 0: 5
            row 0 2: 0 99
            second(0, 0) = 99
            right(false) = 495
            right(true) = 1
            row 0 2: 99 0
            second(0, 0) = 99
            right(false) = 165
            right(true) = 1
            row 0 2: -1 5
            second(0, 0) ! -6
            row 0 2: 5 100
            second(0, 0) ! -6
            row 0 2: MIN 5
            second(0, 0) ! -6
            row 0 2: 5 MAX
            second(0, 0) ! -6
            right(false) = 165
            """);
        edges.edge(26, "one element (as an int) for each of its DOORS as they are by numbers, 0 to 99: their sum", """
            knocked 0 0: 5
            row 0 3: 2^32+99
            second(0, 0) = 99
            row 0 3: LMIN+1
            second(0, 0) = 1
            row 0 3: LMIN
            second(0, 0) = 0
            row 0 3: 2^32-1
            second(0, 0) ! -6
            row 0 3: 2^32+100
            second(0, 0) ! -6
            row 0 3: 2^31
            second(0, 0) ! -6
            row 0 3: LMAX
            second(0, 0) ! -6
            row 0 0: 99
            second(0, 0) = 99
            row 0 0: -128
            second(0, 0) ! -6
            row 0 1: -32768
            second(0, 0) ! -6
            row 0 1: 256
            second(0, 0) ! -6
            """);
        edges.edge(26, "one element (as an int) for each of its DOORS as they are by numbers, 0 to 99: their sum", """
            24 times door(5, 0, 0)
            row(0, 0, 30)
            set(0, {0..23}, 99)
            second(5, 0) = 2376
            set(0, 23, 100)
            second(5, 0) ! -6
            set(0, 23, -1)
            second(5, 0) ! -6
            set(0, 23, 0)
            second(5, 0) = 2277
            """);
        edges.edge(26, "The second count of a BLOCK (in place of an older one) by the ROW in SHELF s", """
            status(9) = 0
            knocked 0 0: 5 6
            row 0 2: 2
            second(0, 0) = 2
            status(9) = 1
            row 0 2: 8
            second(0, 0) = 8
            status(9) = 1
            right(false) = 8
            row 0 2: 0
            second(0, 0) = 0
            right(false) = 0
            status(9) = 1
            knocked 0 0: 7
            row 0 2: 4 4
            second(0, 0) = 8
            right(false) = 8
            second({1..5}, 0) = 0
            status(9) = 6
            """);
        edges.edge(26, "DOORS as they are by numbers", """
            knocked 3 0: 5 6
            row 0 2: 2
            second(3, 0) = 2
            knocked 3 0: 7 8
            right(false) = 4
            right(true) = 1
            second(3, 0) ! -5
            fill()
            row 0 2: 2 1
            second(3, 0) = 3
            right(false) = 4
            right(true) = 1
            """);
    }

    private void secondRefusals() {
        edges.edge(26, "-5 fewer elements than DOORS", """
            row(0, 2, 0)
            second(0, 0) = 0
            door({0 0 1}, 0, 0)
            second(0, 0) ! -5
            row(0, 2, 1)
            second(0, 0) ! -5
            second(1, 0) = 0
            row(0, 2, 2)
            second(0, 0) = 0
            row(0, 2, 3)
            second(0, 0) = 0
            row 0 2: 1 2 100
            second(0, 0) = 3
            row 0 2: 100
            second(0, 0) ! -5
            row 0 2: 100
            second(5, 0) = 0
            """);
        edges.edge(26, "-1 either; -2; -3; -5 fewer elements than DOORS; -6 one not 0 to 99.", """
            door({0 0}, 0, 0)
            show(1, 0)
            row 2 2: -1
            row 3 2: -1 5
            second({-1 6 MIN MAX}, 3) ! -1
            second(0, {-1 8 MIN MAX}) ! -1
            second(6, 1) ! -1
            second(0, 1) ! -2
            second(0, 0) ! -3
            second(5, 1) ! -2
            second(5, 0) ! -3
            second(0, 2) ! -5
            second(0, 3) ! -6
            set(3, 0, 5)
            set(3, 1, -1)
            second(0, 3) ! -6
            set(3, 1, 5)
            second(0, 3) = 10
            """);
    }

    private void right() {
        edges.edge(27, "0 and 1: no second count, or none that both tell.", """
            right({false true}) = 0 1
            knocked 0 0: 5 6
            door(1, 1, 0)
            right({false true}) = 0 1
            row 0 2: 7
            second(1, 0) = 7
            right({false true}) = 0 1
            second(2, 0) = 0
            right({false true}) = 0 1
            row 0 2: 0
            second(0, 0) = 0
            right({false true}) = 0 1
            row 0 2: 1
            second(0, 0) = 1
            right({false true}) = 16 1
            """);
        edges.edge(27, "in lowest terms, its upper part (lower false), or its lower one", """
            knocked 0 0: 5 6
            knocked 1 0: 5 6 7
            row 0 2: 2
            second(0, 0) = 2
            right({false true}) = 5 1
            row 0 2: 4
            second(1, 0) = 4
            right({false true}) = 6 1
            row 0 2: 1
            second(0, 0) = 1
            right({false true}) = 25 4
            row 0 2: 2
            second(1, 0) = 2
            right({false true}) = 5 1
            row 0 2: 8
            second(0, 0) = 8
            right({false true}) = 25 2
            """);
        edges.edge(27, "(the lesser one of both numbers for each DOOR, as RETURNS are now)", """
            knocked 0 0: 5 6 7 8
            knocked 0 0: 5
            row 0 2: 1 4
            second(0, 0) = 5
            right({false true}) = 25 2
            twice(0, 0, 1, 0) = 1
            right({false true}) = 20 1
            """);
        edges.edge(27, "(the lesser one of both numbers for each DOOR, as RETURNS are now)", """
            law k3p1c3
            home 0 0 1: 5 6 7 -1 -1
            row 0 2: 4
            second(0, 0) = 4
            right({false true}) = 0 1
            paper(0) = 3
            right({false true}) = 4 1
            knock(0, 1) = 0
            proxy(0, 12) = 12
            right({false true}) = 12 1
            knock(0, 0) = 1
            right({false true}) = 5 1
            """);
        edges.edge(27, "The sum of all counted HEADS (FILLED, too) put right", """
            knocked 0 0: 5 6 7
            door(1, 0, 0)
            row 0 2: 2
            second(0, 0) = 2
            second(1, 0) = 2
            right({false true}) = 6 1
            fill() = 1
            right({false true}) = 6 1
            row 0 2: 9
            second(1, 0) = 9
            right({false true}) = 66 5
            """);
    }

    private void rightEnds() {
        edges.edge(27, "times all that second counts tell of DOORS, by all of them that both tell", """
            row(0, 2, 12)
            24 times door(0, 0, 1)
            truth({0..23}, 0) = 12
            knock({0..23}, 0) = 1
            row(1, 2, 30)
            set(1, {0..23}, 99)
            second(0, 1) = 2376
            right({false true}) = 2376 1
            set(1, {0..23}, 12)
            second(0, 1) = 288
            right({false true}) = 288 1
            set(1, {0..22}, 0)
            set(1, 23, 1)
            second(0, 1) = 1
            right({false true}) = 288 1
            """);
        edges.edge(27, "times all that second counts tell of DOORS, by all of them that both tell", """
            row(0, 2, 12)
            12 times door(0, 0, 1)
            11 times door(1, 0, 0)
            door(2, 0, 1)
            truth({0..11}, 0) = 12
            knock({0..11}, 0) = 1
            row 0 2: 5
            truth(23, 0) = 1
            knock(23, 0) = 1
            row(1, 2, 30)
            set(1, {0..10}, 99)
            second(1, 1) = 1089
            row 2 2: 98
            second(2, 2) = 98
            right({false true}) = 172115 1
            row 2 2: 99
            second(2, 2) = 99
            right({false true}) = 172260 1
            """);
    }

    private void heap() {
        edges.edge(28, "of counted HEADS (FILLED, too) of AGE 23 to 62", """
            knocked 0 0: 22 63 20 65 0 5 110 -1
            heap() = 100
            knocked 0 0: 23
            heap() = 0
            knocked 0 0: 62
            heap() = 0
            knocked 0 0: 25
            heap() = 166
            knocked 0 0: 60
            heap() = 250
            """);
        edges.edge(28, "500 times those whose AGE by 5 leaves none, by all of them, cut; 100 without any", """
            heap() = 100
            knocked 0 0: 25
            heap() = 500
            knocked 0 0: 24 26
            heap() = 166
            knocked 0 0: 30 35 40
            heap() = 333
            knocked 0 0: 61
            heap() = 285
            """);
        edges.edge(28, "500 times those whose AGE by 5 leaves none, by all of them, cut; 100 without any", """
            row 0 2: 60 60 60 60 60 60 60 60 60 60 60 60
            24 times door(0, 0, 1)
            truth({0..23}, 0) = 12
            knock({0..22}, 0) = 1
            heap() = 500
            set(0, 0, 61)
            truth(23, 0) = 12
            knock(23, 0) = 1
            heap() = 498
            """);
        edges.edge(28, "How far AGES heap: of counted HEADS (FILLED, too)", """
            knocked 0 1: 50
            knocked 0 0: 50
            knocked 0 0: 51
            door(0, 0, 0)
            heap() = 333
            twice(0, 0, 1, 0) = 1
            heap() = 250
            fill() = 1
            from(3) = 2
            heap() = 166
            twice(0, 0, 2, 0) = 2
            heap() = 250
            """);
    }

    private void status() {
        edges.edge(32, "NONE for another what.", """
            status({-1 10 21 22 MIN MIN+10 MIN+11 MIN+20 MAX MAX-1}) = -1
            status({11..17}) = 0
            """);
        edges.edge(32, "5 KNOCKS, 6 answers, 7 1 if CLOSED", """
            law k9p1c3
            24 times door(0, 0, 0)
            9 times knock({0..23}, 0) = 0
            status({5..8}) = 216 0 0 24
            knock(0, 0) ! -6
            fill() = 0
            status({5..8}) = 216 0 1 24
            """);
        edges.edge(32, "5 KNOCKS, 6 answers, 7 1 if CLOSED", """
            24 times door(0, 0, 512)
            knock({0..23}, 9) = 1
            status({5..8}) = 24 24 0 0
            """);
        edges.edge(32, "9 BLOCKS with a second count", """
            row(0, 2, 0)
            second({0..5}, 0) = 0
            status(9) = 6
            second({0..5}, 0) = 0
            status(9) = 6
            """);
        edges.edge(32, "18 to 20: THE LAW's numbers for k, p, c", """
            status({18..20}) = 3 2 3
            law k1p1c2
            status({18..20}) = 1 1 2
            law k9p9c9
            status({18..20}) = 9 9 9
            row 0 0: 'k' '5' 'p' '5' 'c'
            law(0) ! -6
            status({17..21}) = 0 9 9 9 -1
            """);
    }

    private void statusOfDoors() {
        edges.edge(32, "How many: 0 DOORS, 1 RETURNS that aren't 0, 2 FILLED, 3 counted HEADS (FILLED, too), 4 STRUCK", """
            law k9p1c3
            status({0..4}) = 0
            home 0 0 1: 5 6 7
            status({0..4}) = 1 0 0 0 0
            paper(0) = 3
            status({0..4}) = 1 1 0 3 0
            home 0 0 1: 5 -1
            paper(1) = 1
            status({0..4}) = 2 2 0 4 0
            knock(1, 0) = 1
            status({0..4}) = 2 2 0 5 0
            home 0 0 1: 5
            knock(2, 1) = 0
            status({0..4}) = 3 2 0 5 0
            proxy(2, 12) = 12
            status({0..4}) = 3 3 0 17 0
            twice(0, 0, 2, 11) = 2
            status({0..4}) = 3 3 0 16 1
            door(0, 0, 0)
            door(0, 3, 0)
            fill() = 1
            status({0..4}) = 5 4 1 18 1
            from(3) = 1
            """);
        edges.edge(32, "8 DOORS to be asked", """
            law k9p1c3
            status(8) = 0
            home 0 0 1: 5 -1
            home 0 0 1: 5
            home 0 0 1: 5
            status(8) = 3
            paper({0 1}) = 1
            status(8) = 2
            knock(2, 1) = 0
            status(8) = 2
            proxy(2, 1) = 1
            status(8) = 2
            knock(2, 0) = 1
            status(8) = 1
            door(0, 0, 0)
            door(0, 3, 0)
            status(8) = 3
            fill() = 1
            status(8) = 2
            """);
        edges.edge(32, "3 counted HEADS (FILLED, too), 4 STRUCK", """
            row(0, 2, 12)
            24 times door(0, 0, 1)
            truth({0..23}, 0) = 12
            knock({0..23}, 0) = 1
            status({1..4}) = 24 0 288 0
            twice(0, 0, {1..23}, {0..11})
            status({1..4}) = 24 0 12 276
            """);
    }

    private void statusOfRefusals() {
        edges.edge(32, "11 to 17: REFUSALS -1 to -7", """
            row(0, 2, 13)
            door(0, 0, 0)
            status({11..17}) = 0
            door(6, 0, 0) ! -1
            blockIn(0) ! -2
            blockIn(1) ! -3
            row(0, 0, -1) ! -4
            set(0, 13, 0) ! -5
            table() ! -6
            truth(0, 0) ! -7
            status({11..17}) = 1
            100 times paper(1) = -1
            status({11..17}) = 101 1 1 1 1 1 1
            """);
        edges.edge(32, "(the call answers the number; nothing changes but how many there were", """
            door(0, 0, 0)
            show(0, 0)
            row(1, 2, 30)
            70 times blockIn(8) = -1
            60 times blockIn(1) = -2
            50 times blockIn(2) = -3
            40 times row(1, 0, -1) = -4
            30 times set(1, 30, 0) = -5
            20 times cut(25) = -6
            10 times truth(0, 1) = -7
            status({11..17}) = 70 60 50 40 30 20 10
            """);
    }
}
