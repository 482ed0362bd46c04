/** Boundary cases of promises 11 to 21: the law, truth, papers, knocks, proxies, struck heads, and filling. */
final class FieldEdges {
    private final Edges edges;

    FieldEdges(Edges edges) {
        this.edges = edges;
    }

    void play() {
        law();
        lawAsInts();
        lawInTheField();
        fault();
        truth();
        truthAges();
        paper();
        paperRefusals();
        knock();
        knockRefusals();
        proxy();
        twice();
        twiceRefusals();
        fill();
        fillByNumbers();
        fillHeads();
        from();
        about();
        age();
    }

    private void law() {
        edges.edge(11, "k and a digit 1 to 9 (KNOCKS at most)", """
            law k1p2c3
            status({18..20}) = 1 2 3
            law k9p2c3
            status({18..20}) = 9 2 3
            row 0 0: 'k' '0' 'p' '5' 'c' '5'
            law(0) ! -6
            set(0, 1, '9'+1)
            law(0) ! -6
            set(0, 1, 1)
            law(0) ! -6
            status({18..20}) = 9 2 3
            """);
        edges.edge(11, "p and a digit 1 to 9 (KNOCKS ahead of a neighbour)", """
            law k3p1c3
            status({18..20}) = 3 1 3
            law k3p9c3
            status({18..20}) = 3 9 3
            row 0 0: 'k' '5' 'p' '0' 'c' '5'
            law(0) ! -6
            set(0, 3, '9'+1)
            law(0) ! -6
            status({18..20}) = 3 9 3
            """);
        edges.edge(11, "c and a digit 2 to 9 (least cell)", """
            law k3p2c2
            status({18..20}) = 3 2 2
            law k3p2c9
            status({18..20}) = 3 2 9
            row 0 0: 'k' '5' 'p' '5' 'c' '1'
            law(0) ! -6
            set(0, 5, '0')
            law(0) ! -6
            set(0, 5, '9'+1)
            law(0) ! -6
            status({18..20}) = 3 2 9
            """);
        edges.edge(11, "-1; -2; -3; -6 a FAULT.", """
            door(0, 0, 0)
            show(1, 0)
            law({-1 8 MIN MAX}) ! -1
            law(1) ! -2
            law({0 7}) ! -3
            row(0, 0, 0)
            law(0) ! -6
            row(7, 3, 30)
            law(7) ! -6
            status({18..20}) = 3 2 3
            """);
    }

    private void lawAsInts() {
        edges.edge(11, "THE LAW becomes the ROW in SHELF s: 1.", """
            row 0 0: 'k' '4' 'p' '5' 'c' '6'
            row 7 2: 'k' '7' 'p' '8' 'c' '9'
            law(7) = 1
            status({18..20}) = 7 8 9
            law(0) = 1
            status({18..20}) = 4 5 6
            set(0, 1, '9')
            row(7, 0, 0)
            status({18..20}) = 4 5 6
            """);
        edges.edge(11, "elements as ints: of longs the lowest 32 bits", """
            row 0 3: 2^32+'k' LMIN+'1' 2^63+'p' 2^40+'9' 2^62+'c' -4294967296+'4'
            law(0) = 1
            status({18..20}) = 1 9 4
            row 0 2: 'k' '2' 'p' '3' 'c' '4'
            law(0) = 1
            status({18..20}) = 2 3 4
            row 7 1: 'k' '5' 'p' '6' 'c' '7'
            law(7) = 1
            status({18..20}) = 5 6 7
            """);
        edges.edge(11, "elements as ints: of longs the lowest 32 bits", """
            row 0 3: 2^31+'k' '2' 'p' '3' 'c' '4'
            law(0) ! -6
            fault() = 0
            row 0 3: 'k' 2^16+'2' 'p' '3' 'c' '4'
            law(0) ! -6
            fault() = 1
            row 0 2: 'k' '2' 2^16+'p' '3' 'c' '4'
            law(0) ! -6
            fault() = 2
            row 0 2: 'k' '2' 'p' 256+'3' 'c' '4'
            law(0) ! -6
            fault() = 3
            row 0 1: 'k' '2' 'p' '3' 256+'c' '4'
            law(0) ! -6
            fault() = 4
            row 0 1: 'k' '2' 'p' '3' 'c' '4'-256
            law(0) ! -6
            fault() = 5
            row 0 0: 256+'k' '2' 'p' '3' 'c' '4'-256
            law(0) = 1
            """);
    }

    private void lawInTheField() {
        edges.edge(11, "(Also in the field; what was done stands.)", """
            door(0, 0, 0)
            door(0, 0, 1)
            knock(0, {5 6 7}) = 0
            proxy(0, 2) = 2
            law k1p9c3
            about(0, {0 4}) = 3 3
            knock(0, 0) ! -6
            knock(1, 5) = 0
            knock(1, 0) ! -6
            proxy(1, 0) ! -6
            law k4p1c3
            knock(0, 8) = 0
            knock(0, 8) ! -6
            proxy(1, 12) = 12
            """);
        edges.edge(11, "(Also in the field; what was done stands.)", """
            cells 0: 2 2 0 0
            cells 1: 2 2 0 0
            fill()
            law k3p2c2
            table() = 0
            law k3p2c3
            told(0, 0) = 2
            table() = 4
            told(0, 0) = -2
            law k3p2c2
            told(0, 0) = -2
            """);
    }

    private void fault() {
        edges.edge(12, "(the number of elements, if it ends too early)", """
            row(0, 0, 0)
            law(0) ! -6
            fault() = 0
            row 0 0: 'k'
            law(0) ! -6
            fault() = 1
            row 0 0: 'k' '3'
            law(0) ! -6
            fault() = 2
            row 0 0: 'k' '3' 'p'
            law(0) ! -6
            fault() = 3
            row 0 0: 'k' '3' 'p' '2'
            law(0) ! -6
            fault() = 4
            row 0 0: 'k' '3' 'p' '2' 'c'
            law(0) ! -6
            fault() = 5
            """);
        edges.edge(12, "the first place at which an element can't stand as a LAW goes on", """
            row 0 0: 'K' '3' 'p' '2' 'c' '3'
            law(0) ! -6
            fault() = 0
            row 0 0: 'k' 'k' 'p' '2' 'c' '3'
            law(0) ! -6
            fault() = 1
            row 0 0: 'k' '3' 'k' '2' 'c' '3'
            law(0) ! -6
            fault() = 2
            row 0 0: 'k' '3' 'p' 'c' 'c' '3'
            law(0) ! -6
            fault() = 3
            row 0 0: 'k' '3' 'p' '2' 'p' '3'
            law(0) ! -6
            fault() = 4
            row 0 0: 'k' '3' 'p' '2' 'c' '1'
            law(0) ! -6
            fault() = 5
            row 0 0: 'k' '3' 'p' '2' 'c' '3' '3'
            law(0) ! -6
            fault() = 6
            row 0 0: 'k' '0' 'k' '0' 'k' '0' 0
            law(0) ! -6
            fault() = 1
            row(0, 0, 30)
            law(0) ! -6
            fault() = 0
            """);
        edges.edge(12, "the first place at which an element can't stand as a LAW goes on", """
            row 0 3: 'k' '3' 'p' '2' 'c' '3' 0 0 0 0 0 0 0 0 0 0 0 0 0 0 0 0 0 0 0 0 0 0 0 0
            law(0) ! -6
            fault() = 6
            row 0 2: 'k' '3' 'p' '2' 'c' MIN
            law(0) ! -6
            fault() = 5
            row 0 3: LMAX
            law(0) ! -6
            fault() = 0
            """);
        edges.edge(12, "The FAULT of the latest law() that came to a ROW; NONE: it was a LAW, or none yet.", """
            fault() = -1
            law(8) ! -1
            law(0) ! -3
            fault() = -1
            row 0 0: 'k' '3' 'p'
            law(0) ! -6
            fault() = 3
            door(0, 0, 0)
            show(1, 0)
            law(8) ! -1
            law(1) ! -2
            law(2) ! -3
            fault() = 3
            law k3p2c3
            fault() = -1
            law(1) ! -2
            fault() = -1
            """);
    }

    private void truth() {
        edges.edge(13, "TRUTH has 12 HEADS at most.", """
            door(0, 0, 1023)
            row(0, 2, 12)
            truth(0, 0) = 12
            row(0, 2, 13)
            truth(0, 0) ! -7
            row(0, 2, 30)
            truth(0, 0) ! -7
            knock(0, 0) = 1
            about(0, 2) = 12
            """);
        edges.edge(13, "Without TRUTH nobody lives there.", """
            door(0, 0, 1023)
            door(0, 0, 1023)
            door(0, 0, 1023)
            paper(0) = 0
            about(0, {0..3}) = 1 0 0 0
            knock(1, 9) = 1
            about(1, {0..3}) = 2 0 0 0
            row 0 2: 5 6
            truth(2, 0) = 2
            row(0, 2, 0)
            truth(2, 0) = 0
            knock(2, 9) = 1
            about(2, {0..3}) = 2 0 0 0
            """);
        edges.edge(13, "a ROW that was given (as it was then)", """
            door(0, 0, 1023)
            row 0 2: 5 6
            truth(0, 0) = 2
            set(0, 0, 99)
            row(0, 2, 30)
            show(0, -1)
            knock(0, 0) = 1
            age(0, {0..2}) = 5 6 -1
            """);
        edges.edge(13, "TRUTH of a DOOR is the ROW in SHELF s from now on (its RETURN stays): how many HEADS.", """
            home 0 0 1023: 5 6 -1
            paper(0) = 2
            row 0 2: 7 8 9 10
            truth(0, 0) = 4
            about(0, {0..2}) = 1 1 2
            age(0, {0..3}) = 5 6 -1 -1
            knock(0, 0) = 1
            age(0, {0..4}) = 7 8 9 10 -1
            row 0 2: 70
            truth(0, 0) = 1
            age(0, {0..4}) = 7 8 9 10 -1
            """);
        edges.edge(13, "-1 either; -2; -3; -6 CLOSED; -7 more than 12.", """
            door(0, 0, 0)
            show(1, 0)
            row(2, 0, 13)
            row(3, 0, 1)
            truth({-1 1 24 MIN MAX}, 3) ! -1
            truth(0, {-1 8 MIN MAX}) ! -1
            truth(1, 1) ! -1
            truth(0, 1) ! -2
            truth(0, 0) ! -3
            truth(0, 2) ! -7
            truth(0, 3) = 1
            fill()
            truth({-1 1}, 3) ! -1
            truth(0, 8) ! -1
            truth(0, 1) ! -2
            truth(0, 0) ! -3
            truth(0, 3) ! -6
            truth(0, 2) ! -6
            """);
    }

    private void truthAges() {
        edges.edge(13, "an AGE, if it is 0 to 110, else none", """
            home 0 0 1023: -1 0 1 109 110 111 MIN MAX 256 -110
            knock(0, 0) = 1
            age(0, {0..10}) = -2 0 1 109 110 -2 -2 -2 -2 -2 -1
            """);
        edges.edge(13, "an element (as an int) for each", """
            door(0, 0, 1023)
            row 0 3: 2^32 2^32-1 2^32+110 2^32+111 LMIN+1 LMIN+110 LMIN+111 LMAX 2^31 2^62 MIN 5
            truth(0, 0) = 12
            knock(0, 0) = 1
            age(0, {0..11}) = 0 -2 110 -2 1 110 -2 -2 -2 0 -2 5
            """);
        edges.edge(13, "(what is the least number of its SORT has none, too)", """
            4 times door(0, 0, 1023)
            row 0 0: -128 -127 0 127 110 111
            truth(0, 0) = 6
            row 0 1: -32768 -32767 0 32767 110 111
            truth(1, 0) = 6
            row 0 2: MIN MIN+1 0 MAX 110 111
            truth(2, 0) = 6
            row 0 3: LMIN LMIN+1 0 LMAX 110 111
            truth(3, 0) = 6
            knock({0..3}, 0) = 1
            age(0, {0..6}) = -2 -2 0 -2 110 -2 -1
            age(1, {0..6}) = -2 -2 0 -2 110 -2 -1
            age(2, {0..6}) = -2 -2 0 -2 110 -2 -1
            age(3, {0..6}) = -2 1 0 -2 110 -2 -1
            """);
        edges.edge(13, "(what is the least number of its SORT has none, too)", """
            door(0, 0, 0)
            row 0 3: 0 LMIN 0
            truth(0, 0) = 3
            paper(0) = 1
            about(0, 1) = 1
            """);
    }

    private void paper() {
        edges.edge(14, "A PAPER comes from a DOOR: how many HEADS it tells.", """
            home 0 0 0: 40 41 9
            home 0 0 0: 40 -1 9
            door(0, 0, 0)
            paper({0..2}) = 3 1 0
            about({0..2}, 0) = 1
            about({0..2}, 2) = 3 1 0
            age(0, {0..3}) = 40 41 9 -1
            status({1 3}) = 3 4
            """);
        edges.edge(14, "at the first one without AGE it is BROKEN there (the HEADS ahead are kept); else it is WHOLE", """
            home 0 0 0: -1
            home 0 0 0: 0 111
            home 0 0 0: 1 2 3 4 5 6 7 8 9 10 11 -1
            home 0 0 0: 1 2 -1 -1 5
            home 0 0 0: 1 2 3 4 5 6 7 8 9 10 11 110
            home 0 0 0: 7
            paper({0..5}) = 0 1 11 2 12 1
            about({0..5}, 0) = 1
            about({0..5}, 1) = 1 1 1 1 0 0
            about({0..5}, 2) = 0 1 11 2 12 1
            age(1, {0 1}) = 0 -1
            age(2, {0 10 11}) = 1 11 -1
            age(3, {0..4}) = 1 2 -1 -1 -1
            age(4, {0 11 12}) = 1 110 -1
            """);
        edges.edge(14, "DOORS to be asked: those without RETURN, with a BROKEN PAPER, or a PROXY.", """
            law k3p1c3
            home 0 0 0: 5 6
            knock(0, 0) = 0
            proxy(0, 7) = 7
            paper(0) = 2
            about(0, {0..4}) = 1 0 2 0 1
            age(0, {0..2}) = 5 6 -1
            paper(0) ! -6
            """);
        edges.edge(14, "DOORS to be asked: those without RETURN, with a BROKEN PAPER, or a PROXY.", """
            law k3p1c3
            home 0 0 0: 5 -1
            paper(0) = 1
            knock(0, 0) = 0
            proxy(0, 7) = 7
            about(0, {0..2}) = 3 0 7
            paper(0) = 1
            about(0, {0..2}) = 1 1 1
            paper(0) ! -6
            """);
    }

    private void paperRefusals() {
        edges.edge(14, "-1; -6 CLOSED, the DOOR isn't to be asked, or it has a BROKEN one.", """
            paper(0) ! -1
            home 0 0 0: 5
            home 0 0 0: 5 -1
            home 0 0 1023: 5
            home 0 0 0: 5 6
            paper({-1 4 24 MIN MAX}) ! -1
            paper({0 1}) = 1
            knock(2, 0) = 1
            paper(0) ! -6
            paper(1) ! -6
            paper(2) ! -6
            row 6 2: 1 2
            truth(1, 6)
            paper(1) ! -6
            fill() = 1
            paper({0..3}) ! -6
            paper({-1 4}) ! -1
            """);
        edges.edge(14, "-1; -6 CLOSED, the DOOR isn't to be asked, or it has a BROKEN one.", """
            law k3p1c3
            home 0 0 0: 5
            home 0 1 0: 5
            knock(0, 0) = 0
            proxy(0, 3) = 3
            fill() = 0
            about({0 1}, 0) = 3 0
            paper({0 1}) ! -6
            """);
        edges.edge(14, "-1; -6 CLOSED, the DOOR isn't to be asked, or it has a BROKEN one.", """
            24 times door(0, 0, 0)
            paper(23) = 0
            paper(24) ! -1
            paper(23) ! -6
            """);
    }

    private void knock() {
        edges.edge(15, "A KNOCK at an HOUR at which somebody is in tells all HEADS, those without AGE with none told", """
            home 0 0 512: 0 110 111 -1 5 6 7 8 9 10 11 MIN
            home 0 0 1: 44
            home 0 0 1023: 3
            knock(0, 9) = 1
            about(0, {0..4}) = 2 0 12 0 1
            age(0, {0..12}) = 0 110 -2 -2 5 6 7 8 9 10 11 -2 -1
            knock(1, 0) = 1
            age(1, {0 1}) = 44 -1
            knock(2, 4) = 1
            """);
        edges.edge(15, "else nobody answers (each is counted as a KNOCK at the DOOR)", """
            home 0 0 1: 5
            home 0 0 512: 5 -1
            home 0 0 0: 5 6 7
            law k9p1c3
            knock(0, 1) = 0
            about(0, {0..4}) = 0 0 0 0 1
            paper(1) = 1
            knock(1, 8) = 0
            about(1, {0..4}) = 1 1 1 0 1
            knock(2, 0) = 0
            proxy(2, 4) = 4
            knock(2, 9) = 0
            about(2, {0..4}) = 3 0 4 0 2
            status({5 6}) = 4 0
            """);
        edges.edge(15, "DOORS to be asked: those without RETURN, with a BROKEN PAPER, or a PROXY.", """
            home 0 0 2: 5
            home 0 0 2: 5 -1 6
            home 0 0 2: 5 6 7 8
            law k3p1c3
            knock(0, 1) = 1
            about(0, {0..4}) = 2 0 1 0 1
            paper(1) = 1
            knock(1, 1) = 1
            about(1, {0..4}) = 2 0 3 0 1
            age(1, {0..2}) = 5 -2 6
            knock(2, 0) = 0
            proxy(2, 2) = 2
            knock(2, 1) = 1
            about(2, {0..4}) = 2 0 4 0 2
            status(8) = 0
            """);
    }

    private void knockRefusals() {
        edges.edge(15, "A KNOCK at a DOOR at an HOUR 0 to 9: 1 it was answered, 0 not.", """
            door(0, 0, 1023)
            door(0, 0, 1023)
            knock(0, {-1 10 31 32 33 64 MIN MAX}) ! -6
            knock(0, 0) = 1
            knock(1, 9) = 1
            bestHour(0) = 0
            """);
        edges.edge(15, "it had as many KNOCKS as THE LAW lets", """
            door(0, 0, 1)
            law k1p1c3
            knock(0, 5) = 0
            knock(0, 0) ! -6
            law k2p1c3
            knock(0, 5) = 0
            knock(0, 0) ! -6
            law k9p1c3
            6 times knock(0, 9) = 0
            knock(0, 0) = 1
            about(0, 4) = 9
            """);
        edges.edge(15, "it had as many KNOCKS as THE LAW lets", """
            door(0, 0, 0)
            law k9p1c3
            9 times knock(0, 3) = 0
            knock(0, 3) ! -6
            about(0, 4) = 9
            status(5) = 9
            bestHour(0) = 0
            """);
        edges.edge(15, "it had as many KNOCKS as THE LAW lets", """
            home 0 0 1: 5 -1
            law k1p1c3
            paper(0) = 1
            knock(0, 1) = 0
            knock(0, 0) ! -6
            proxy(0, 1) = 1
            knock(0, 0) ! -6
            """);
        edges.edge(15, "-1; -6 HOUR, CLOSED, the DOOR isn't to be asked", """
            knock(0, 0) ! -1
            door(0, 0, 1023)
            door(0, 0, 1023)
            door(0, 1, 1023)
            knock({-1 3 24 MIN MAX}, 0) ! -1
            knock(3, 10) ! -1
            paper(0) = 0
            knock(0, 0) ! -6
            knock(1, 0) = 1
            knock(1, 0) ! -6
            fill() = 0
            knock(2, 0) ! -6
            knock(3, 0) ! -1
            about(2, 4) = 0
            status({5 6}) = 1
            """);
        edges.edge(15, "-1; -6 HOUR, CLOSED, the DOOR isn't to be asked", """
            law k3p1c3
            home 0 0 1: 5 -1
            home 0 0 1: 5
            home 0 0 1: 6
            home 0 0 1: 7
            paper(0) = 1
            knock(1, 5) = 0
            proxy(1, 1) = 1
            knock(3, 0) = 1
            fill() = 1
            about({0..3}, 0) = 1 3 4 2
            knock({0..3}, 0) ! -6
            """);
    }

    private void proxy() {
        edges.edge(16, "A neighbour tells n (0 to 12) HEADS for a DOOR: n.", """
            law k3p1c3
            3 times door(0, 0, 0)
            knock({0..2}, 0) = 0
            proxy(0, {-1 13 MIN MAX}) ! -6
            proxy(0, 0) = 0
            about(0, {0..2}) = 3 0 0
            proxy(1, 12) = 12
            about(1, {0..2}) = 3 0 12
            age(1, {0 11 12}) = -2 -2 -1
            proxy(2, 1) = 1
            age(2, {0 1}) = -2 -1
            count(0, {0..3}, true) = 0 0 0 13
            """);
        edges.edge(16, "or had fewer KNOCKS than THE LAW wants ahead of it", """
            door(0, 0, 0)
            law k9p1c3
            proxy(0, 3) ! -6
            law k9p9c3
            8 times knock(0, 0) = 0
            proxy(0, 3) ! -6
            knock(0, 0) = 0
            proxy(0, 3) = 3
            """);
        edges.edge(16, "or had fewer KNOCKS than THE LAW wants ahead of it", """
            door(0, 0, 0)
            law k1p2c3
            knock(0, 0) = 0
            proxy(0, 3) ! -6
            knock(0, 0) ! -6
            proxy(0, 3) ! -6
            law k1p1c3
            proxy(0, 3) = 3
            """);
        edges.edge(16, "-1; -6 n, CLOSED, the DOOR isn't to be asked, or has a PROXY", """
            law k3p1c3
            proxy(0, 1) ! -1
            home 0 0 1: 5
            home 0 0 1: 5
            home 0 0 1: 5 -1
            home 0 0 1: 5
            home 0 2 1: 5
            proxy({-1 5 24 MIN MAX}, 1) ! -1
            proxy(5, 13) ! -1
            knock({0..4}, 5) = 0
            paper(0) = 1
            proxy(0, 1) ! -6
            knock(1, 0) = 1
            proxy(1, 1) ! -6
            paper(2) = 1
            proxy(2, 3) = 3
            about(2, {0..2}) = 3 0 3
            proxy(2, 3) ! -6
            proxy(2, 4) ! -6
            fill() = 1
            proxy({0..4}, 1) ! -6
            proxy(5, 1) ! -1
            """);
    }

    private void twice() {
        edges.edge(17, "HEAD i of a DOOR's RETURN and HEAD k of another one's are one person: the DOOR where it is STRUCK.", """
            knocked 0 0: 1 20 70
            knocked 0 0: 2 21 71
            knocked 0 0: 3 22 72
            twice(0, 1, 2, 2) = 2
            count(0, {0..3}, true) = 3 3 2 0
            twice(2, 1, 1, 0) = 2
            count(0, {0..3}, true) = 3 2 2 0
            twice(1, 0, 0, 0) = 1
            count(0, {0..3}, true) = 2 2 2 0
            about({0..2}, 3) = 0 1 2
            """);
        edges.edge(17, "Of two HEADS told to be one person, that at the DOOR of the greater number is STRUCK: it is counted nowhere.", """
            knocked 0 0: 25 26
            knocked 1 0: 25 26
            twice(0, 0, 1, 1) = 1
            twice(1, 0, 0, 1) = 1
            about(0, 3) = 0
            about(1, {2 3}) = 2 2
            age(1, {0 1}) = 25 26
            count({0 1}, 1, true) = 2 0
            count({0 1}, 1, false) = 2 0
            status({3 4}) = 2 2
            heap() = 250
            row 0 2: 2
            second(1, 0) = 2
            right(false) = 0
            right(true) = 1
            """);
        edges.edge(17, "Of two HEADS told to be one person, that at the DOOR of the greater number is STRUCK: it is counted nowhere.", """
            row(6, 2, 12)
            24 times door(0, 0, 1023)
            truth({0 23}, 6) = 12
            knock({0 23}, 0) = 1
            twice(0, 11, 23, {0..11}) = 23
            about(23, {2 3}) = 12
            about(0, {2 3}) = 12 0
            status({3 4}) = 12
            twice(0, 0, 23, 11) ! -6
            twice(23, 11, 0, 0) ! -6
            """);
        edges.edge(17, "(A new RETURN of a DOOR has no STRUCK ones.)", """
            law k9p1c3
            knocked 0 0: 5 6 7
            home 0 0 1: 5 6 -1
            paper(1) = 2
            twice(0, 0, 1, 0) = 1
            twice(1, 1, 0, 1) = 1
            about(1, 3) = 2
            knock(1, 1) = 0
            about(1, 3) = 2
            proxy(1, 3) = 3
            about(1, {2 3}) = 3 0
            twice(0, 0, 1, 2) = 1
            about(1, 3) = 1
            paper(1) = 2
            about(1, {2 3}) = 2 0
            twice(0, 0, 1, 0) = 1
            knock(1, 0) = 1
            about(1, {2 3}) = 3 0
            status(4) = 0
            """);
        edges.edge(17, "(A new RETURN of a DOOR has no STRUCK ones.)", """
            home 0 0 1: 5 -1
            knocked 0 0: 5
            paper(0) = 1
            twice(0, 0, 1, 0) = 1
            knock(0, 0) = 1
            about(1, 3) = 1
            """);
    }

    private void twiceRefusals() {
        edges.edge(17, "-1; -5 no such HEADS", """
            knocked 0 0: 5 6
            knocked 0 0: 7
            door(0, 0, 0)
            knocked 0 0:
            twice({-1 4 24 MIN MAX}, 0, 0, 0) ! -1
            twice(0, 0, {-1 4 24 MIN MAX}, 0) ! -1
            twice(4, 9, 0, 9) ! -1
            twice(0, {-1 2 12 31 32 33 MIN MAX}, 1, 0) ! -5
            twice(0, 0, 1, {-1 1 12 31 32 33 MIN MAX}) ! -5
            twice(0, 0, 2, 0) ! -5
            twice(2, 0, 0, 0) ! -5
            twice(0, 0, 3, 0) ! -5
            twice(3, 0, 0, 0) ! -5
            twice(0, 2, 0, 0) ! -5
            twice(0, 0, 0, 2) ! -5
            twice(2, 0, 2, 0) ! -5
            twice(0, 1, 1, 0) = 1
            """);
        edges.edge(17, "-6 one DOOR, one is STRUCK, one is of a FILLED RETURN", """
            knocked 0 0: 5 6
            knocked 0 0: 5 6
            knocked 0 1: 5 6
            door(0, 1, 0)
            twice(0, 0, 0, {0 1}) ! -6
            twice(1, 0, 0, 0) = 1
            twice(0, 0, 1, 0) ! -6
            twice(1, 0, 0, 1) ! -6
            twice(1, 0, 2, 0) ! -6
            twice(2, 0, 1, 0) ! -6
            twice(1, 0, 1, 1) ! -6
            fill() = 1
            from(3) = 2
            twice(0, 0, 3, 0) ! -6
            twice(3, 1, 0, 1) ! -6
            twice(0, 0, 3, 2) ! -5
            twice(0, 0, 2, 1) = 2
            about(3, {2 3}) = 2 0
            """);
        edges.edge(17, "-6 one DOOR, one is STRUCK, one is of a FILLED RETURN", """
            door(0, 0, 0)
            door(0, 0, 0)
            knocked 0 0: 5 6
            fill() = 2
            twice({0 1}, 0, 2, 0) ! -6
            twice(2, 0, {0 1}, 0) ! -6
            twice(0, 0, 1, 0) ! -6
            twice(0, 2, 1, 0) ! -5
            """);
    }

    private void fill() {
        edges.edge(18, "The field is CLOSED, and DOORS are filled: how many. -6 it is CLOSED.", """
            status(7) = 0
            fill() = 0
            status(7) = 1
            fill() ! -6
            fill() ! -6
            """);
        edges.edge(18, "The field is CLOSED, and DOORS are filled: how many. -6 it is CLOSED.", """
            knocked 0 0: 5
            door(0, 0, 0)
            fill() = 1
            fill() ! -6
            about({0 1}, 0) = 2 4
            """);
        edges.edge(18, "none if there is none", """
            door(0, 0, 0)
            door(1, 3, 0)
            fill() = 0
            about({0 1}, {0..5}) = 0
            from({0 1}) = -1
            status({1 2 8}) = 0 0 2
            """);
        edges.edge(18, "of two alike the lesser", """
            knocked 0 0: 5
            knocked 0 0: 6
            door(0, 0, 0)
            knocked 0 0: 7
            knocked 0 0: 8
            fill() = 1
            from(2) = 1
            age(2, 0) = 6
            """);
        edges.edge(18, "of the DOOR nearest by number", """
            knocked 0 0: 5
            door(0, 1, 0)
            door(0, 1, 0)
            door(0, 0, 0)
            door(0, 1, 0)
            knocked 5 0: 7
            fill() = 1
            from(3) = 5
            """);
        edges.edge(18, "with the same LIKE and a WHOLE PAPER or a KNOCK", """
            law k3p1c3
            home 0 2 0: 5
            paper(0) = 1
            knocked 0 1: 6
            home 0 2 0: 7 -1
            paper(2) = 1
            home 0 2 0: 8
            knock(3, 0) = 0
            proxy(3, 1) = 1
            knocked 0 3: 9
            door(0, 2, 0)
            knocked 0 0: 10
            fill() = 1
            from({0..6}) = -1 -1 -1 -1 -1 0 -1
            about({2 3}, 0) = 1 3
            """);
        edges.edge(18, "with the same LIKE and a WHOLE PAPER or a KNOCK", """
            law k3p1c3
            home 0 0 0: 7 -1
            paper(0) = 1
            home 0 0 0: 8
            knock(1, 0) = 0
            proxy(1, 1) = 1
            door(0, 0, 0)
            fill() = 0
            about({0..2}, 0) = 1 3 0
            """);
    }

    private void fillByNumbers() {
        edges.edge(18, "that was used less than two times", """
            door(0, 0, 0)
            knocked 0 0: 5
            door(0, 0, 0)
            door(0, 0, 0)
            fill() = 2
            from({0..3}) = 1 -1 1 -1
            about(1, 5) = 2
            about({0..3}, 0) = 4 2 4 0
            """);
        edges.edge(18, "that was used less than two times", """
            knocked 0 0: 5
            22 times door(0, 0, 0)
            knocked 0 0: 6
            fill() = 4
            from({0..23}) = -1 0 0 23 23 -1 -1 -1 -1 -1 -1 -1 -1 -1 -1 -1 -1 -1 -1 -1 -1 -1 -1 -1
            about({0 23}, 5) = 2
            status(2) = 4
            """);
        edges.edge(18, "DOORS without RETURN, by numbers, get the HEADS", """
            24 times door(0, 0, 1)
            knock({0 3 6 9 12 15 18 21}, 0) = 1
            fill() = 16
            from({0..8}) = -1 0 3 -1 3 6 -1 6 9
            from({9..17}) = -1 9 12 -1 12 15 -1 15 18
            from({18..23}) = -1 18 21 -1 21 0
            about({3 6 21}, 5) = 2
            status({1 2 8}) = 24 16 0
            """);
        edges.edge(18, "DOORS without RETURN, by numbers, get the HEADS", """
            door(0, 0, 0)
            door(0, 0, 0)
            door(0, 0, 0)
            knocked 0 0: 5
            knocked 0 0: 6
            fill() = 3
            from({0..2}) = 3 3 4
            """);
    }

    private void fillHeads() {
        edges.edge(18, "(STRUCK ones left out)", """
            knocked 0 0: 5 6 7
            knocked 0 0: 5 6 7
            door(0, 0, 0)
            twice(0, 0, 1, 1) = 1
            fill() = 1
            from(2) = 1
            about(2, {0..3}) = 4 0 2 0
            age(2, {0..2}) = 5 7 -1
            about(1, {2 3}) = 3 1
            """);
        edges.edge(18, "(STRUCK ones left out)", """
            knocked 0 1: 5
            knocked 0 0: 5
            door(0, 0, 0)
            twice(0, 0, 1, 0) = 1
            fill() = 1
            from(2) = 1
            about(2, {0..3}) = 4 0 0 0
            status({1 2 3 4}) = 3 1 1 1
            """);
        edges.edge(18, "get the HEADS (STRUCK ones left out) of the DOOR nearest by number", """
            knocked 0 0: 0 110 -1 4 5 6 7 8 9 10 11 12
            door(0, 0, 0)
            home 0 1 0: 5
            home 0 2 0: 5 6
            row(6, 2, 0)
            truth(3, 6) = 0
            paper(3) = 0
            door(0, 2, 0)
            fill() = 2
            age(1, {0..12}) = 0 110 -2 4 5 6 7 8 9 10 11 12 -1
            from(4) = 3
            about(4, {0..3}) = 4 0 0 0
            about(2, 0) = 0
            """);
    }

    private void from() {
        edges.edge(19, "The DOOR whose HEADS filled a DOOR; NONE.", """
            from({-1 0 24 MIN MAX}) = -1
            22 times door(0, 0, 0)
            door(0, 1, 0)
            knocked 0 1: 5
            from(22) = -1
            fill() = 1
            from({22 23}) = 23 -1
            from({-1 0 21 24 MIN MAX}) = -1
            status({11..17}) = 0
            """);
        edges.edge(19, "The DOOR whose HEADS filled a DOOR; NONE.", """
            knocked 0 0: 5
            door(0, 0, 0)
            fill() = 1
            from({0 1 2}) = -1 0 -1
            """);
    }

    private void about() {
        edges.edge(20, "NONE: no such DOOR, another what.", """
            about({-1 0 23 MIN MAX}, 0) = -1
            door(0, 0, 0)
            about(0, {-1 6 MIN MAX}) = -1
            about({-1 1 24 MIN MAX}, {0..5}) = -1
            about(0, {0..5}) = 0
            status({11..17}) = 0
            """);
        edges.edge(20, "Of a DOOR 0 RETURN, 1 1 if its PAPER is BROKEN", """
            law k9p1c3
            home 0 0 1: 5 -1
            about(0, {0 1}) = 0 0
            knock(0, 1) = 0
            paper(0) = 1
            about(0, {0 1}) = 1 1
            proxy(0, 0) = 0
            about(0, {0 1}) = 3 0
            paper(0) = 1
            about(0, {0 1}) = 1 1
            knock(0, 0) = 1
            about(0, {0 1}) = 2 0
            door(0, 0, 1)
            paper(1) = 0
            about(1, {0 1}) = 1 0
            door(0, 0, 1)
            fill() = 1
            about(2, {0 1}) = 4 0
            """);
        edges.edge(20, "2 how many HEADS its RETURN has, 3 how many are STRUCK, 4 KNOCKS at it, 5 how many DOORS it filled", """
            law k9p1c3
            row(6, 2, 12)
            22 times door(0, 0, 512)
            truth({0 21}, 6) = 12
            8 times knock(21, 0) = 0
            knock({0 21}, 9) = 1
            twice(0, 0, 21, {0..11}) = 21
            fill() = 4
            about(21, {0..5}) = 2 0 12 12 9 2
            about(0, {0..5}) = 2 0 12 0 1 2
            about(1, {0..5}) = 4 0 12 0 0 0
            about(3, {0..5}) = 4 0 0 0 0 0
            """);
    }

    private void age() {
        edges.edge(21, "AGE of HEAD i of a DOOR's RETURN; -2 none told; NONE: no such one.", """
            age(0, 0) = -1
            home 0 0 1: 0 110 -1 4 5 6 7 8 9 10 11 111
            age(0, {-1 0 11 12}) = -1
            knock(0, 0) = 1
            age(0, {0..11}) = 0 110 -2 4 5 6 7 8 9 10 11 -2
            age(0, {-1 12 30 MIN MAX}) = -1
            age({-1 1 24 MIN MAX}, 0) = -1
            status({11..17}) = 0
            """);
        edges.edge(21, "AGE of HEAD i of a DOOR's RETURN; -2 none told; NONE: no such one.", """
            law k9p1c3
            home 0 0 1: 1 2 3 -1
            paper(0) = 3
            age(0, {0..3}) = 1 2 3 -1
            knock(0, 1) = 0
            proxy(0, 1) = 1
            age(0, {0..3}) = -2 -1 -1 -1
            knock(0, 0) = 1
            age(0, {0..4}) = 1 2 3 -2 -1
            """);
    }
}
