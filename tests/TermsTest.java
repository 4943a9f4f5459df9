import java.io.IOException;

/** The sentences of 'What it is' and 'Terms', each with the edges that it names. */
public final class TermsTest {
    public static void main(String[] args) throws IOException {
        calls512();
        groups();
        nothing();
        steps();
        normals();
        orders();
        ringsOfGroups();
        same();
        mapsAndImages();
        well();
        kernels();
        parts();
        partsByLeads();
        exact();
        changes();
        latestChanges();
        pairs();
        sums();
        tape();
        grammar();
        faults();
        numbersOnTheWay();
        waysOfText();
        tablesTold();
        diagramNamed();
        diagramAllWell();
        diagramExact();
        diagramSquares();
        connectedBySquares();
        connectedByRows();
        moves();
        runs();
        runsBreakOff();
        spans();
        sheets();
        shelves();
        Calls.end();
    }

    private static Calls play(String line) {
        return Calls.play(line);
    }

    private static void sentence(String words) {
        Calls.sentence(words);
    }

    // ------------------------------------------------------------------ groups

    private static void calls512() {
        sentence("An object is used for at most 512 calls after it has been made; what later calls answer is free.");
        Calls calls = play("group 0 1; relation 0 7 0 0; move 0 0; keep");
        for (int call = 5; call <= 510; call++) {
            calls.then(call % 2 == 0 ? "undo = 3" : "move 1 2 = 2");
        }
        calls.then("many 5 = 3; run 0 5 0 0 0 = 6");
    }

    private static void groups() {
        sentence("GROUPS 0 to 5: each of n GENERATORS (0 to 3; 0 at first), with RELATIONS (4 at most; "
            + "none at first): rows of n whole numbers, -9 to 9.");
        for (int g = 0; g < 6; g++) {
            Calls.playWith(g, "groupIs # 0 = 0; groupIs # 1 = 0; groupIs # 3 = 1; group # 3 = 0; groupIs # 0 = 3");
        }
        play("group 6 0 = BAD; group -1 0 = BAD; group 0 4 = BAD; group 0 -1 = BAD; group 0 0 = 0; group 0 3 = 0; "
            + "group 0 0 = 3");
        play("group 0 1; relation 0 9 0 0 = 1; relation 0 -9 0 0 = 2; relation 0 9 0 0 = 3; step 0 0 = 9; "
            + "relation 0 6 0 0 = 4; step 0 0 = 3; relation 0 1 0 0 = FULL; step 0 0 = 3; groupIs 0 1 = 4");
        play("group 0 2; relation 0 9 0 9; normal 0 9 0 0 1 = 0; step 0 1 = 0; group 0 3; relation 0 0 0 -9; step 0 2 = 9");
        play("relation 0 9 9 9 = 1; relation 0 0 0 0 = 2; relation 0 0 0 0 = 3; relation 0 0 0 0 = 4; relation 0 0 0 0 = FULL");
        sentence("An ELEMENT of it is a row of n whole numbers. Where one is told, by a, b, c (-999 to 999), the first n of "
            + "these count.");
        play("group 0 1; relation 0 7 0 0; normal 0 999 999 -999 0 = 5; normal 0 -999 -999 999 0 = 2; "
            + "normal 0 1000 0 0 0 = BAD; normal 0 -1000 0 0 0 = BAD; normal 0 5 1000 0 0 = BAD; normal 0 5 0 -1000 0 = BAD; "
            + "order 0 0 1 1 = 1");
        play("group 0 2; relation 0 1 0 0; relation 0 0 5 0; order 0 999 999 999 = 5; order 0 999 0 999 = 1; "
            + "order 0 0 0 1000 = BAD");
        play("order 3 999 -999 999 = 1; order 3 1000 0 0 = BAD; order 3 0 -1000 0 = BAD; order 3 0 0 1000 = BAD");
        play("group 0 3; relation 0 1 0 0; relation 0 0 1 0; relation 0 0 0 8; order 0 999 -999 999 = 8; order 0 3 3 -998 = 4");
    }

    private static void nothing() {
        sentence("NOTHING of a GROUP: the rows that are sums of RELATIONS, each as often as one likes (also taken away).");
        play("group 0 1; order 0 0 0 0 = 1; order 0 1 0 0 = 0; relation 0 0 0 0; order 0 1 0 0 = 0; relation 0 9 0 0; "
            + "order 0 9 0 0 = 1; order 0 -9 0 0 = 1; order 0 990 0 0 = 1; order 0 -999 0 0 = 1; order 0 998 0 0 = 9; "
            + "relation 0 -7 0 0; order 0 1 0 0 = 1");
        play("group 0 2; relation 0 2 3 0; relation 0 4 1 0; order 0 2 -2 0 = 1; order 0 -2 2 0 = 1; order 0 0 5 0 = 1; "
            + "order 0 0 1 0 = 5; order 0 6 4 0 = 1; order 0 6 5 0 = 5");
        play("group 0 3; relation 0 1 1 0; relation 0 0 1 1; relation 0 1 0 1; relation 0 0 0 0; order 0 1 0 -1 = 1; "
            + "order 0 0 0 2 = 1; order 0 0 0 1 = 2; order 0 1 1 1 = 2");
        sentence("Two ELEMENTS are ONE, if the one less the other is in NOTHING.");
        play("group 0 2; relation 0 4 2 0; normal 0 4 2 0 0 = 0; normal 0 4 2 0 1 = 0; normal 0 5 2 0 0 = 1; "
            + "normal 0 1 0 0 0 = 1; normal 0 1 0 0 1 = 0; normal 0 5 2 0 1 = 0; normal 0 5 0 0 1 = -2; normal 0 2 1 0 0 = 2; "
            + "normal 0 2 1 0 1 = 1");
    }

    private static void steps() {
        sentence("STEP k (k 0 to n - 1): the least number above 0 that stands at place k in a row of NOTHING that has 0 at "
            + "all places ahead of k; 0, if there is none.");
        play("group 0 3; step 0 0 = 0; step 0 1 = 0; step 0 2 = 0; step 0 3 = BAD; step 0 -1 = BAD; relation 0 -6 2 1; "
            + "step 0 0 = 6; step 0 1 = 0; step 0 2 = 0; relation 0 4 0 0; step 0 0 = 2; step 0 1 = 4; step 0 2 = 0; "
            + "relation 0 0 0 -5; step 0 2 = 5; step 0 0 = 2; step 0 1 = 4");
        play("group 0 2; relation 0 0 0 0; step 0 0 = 0; relation 0 0 -9 0; step 0 0 = 0; step 0 1 = 9; relation 0 0 1 0; "
            + "step 0 1 = 1");
        play("group 0 3; relation 0 5 1 2; relation 0 0 2 1; step 0 0 = 5; step 0 1 = 2; step 0 2 = 0; relation 0 5 3 4; "
            + "step 0 0 = 5; step 0 1 = 2; step 0 2 = 1");
        play("group 0 1; step 0 0 = 0; step 0 1 = BAD; step 1 0 = BAD; relation 0 9 0 0; relation 0 6 0 0; step 0 0 = 3");
    }

    private static void normals() {
        sentence("NORMAL of an ELEMENT: that which is ONE with it, and has at each place k of which STEP is not 0 a number "
            + "from 0 to STEP less 1.");
        play("group 0 1; relation 0 6 0 0; normal 0 0 0 0 0 = 0; normal 0 5 0 0 0 = 5; normal 0 6 0 0 0 = 0; "
            + "normal 0 -1 0 0 0 = 5; normal 0 -6 0 0 0 = 0; normal 0 -5 0 0 0 = 1; normal 0 999 0 0 0 = 3; "
            + "normal 0 -999 0 0 0 = 3");
        play("group 0 1; normal 0 -999 0 0 0 = -999; normal 0 999 0 0 0 = 999; relation 0 1 0 0; normal 0 999 0 0 0 = 0");
        play("group 0 3; relation 0 3 -2 4; relation 0 0 0 5; normal 0 3 0 0 0 = 0; normal 0 3 0 0 1 = 2; "
            + "normal 0 3 0 0 2 = 1; normal 0 -1 0 0 0 = 2; normal 0 -1 0 0 1 = -2; normal 0 -1 0 0 2 = 4; "
            + "normal 0 2 -999 4 0 = 2; normal 0 2 -999 4 1 = -999; normal 0 2 -999 4 2 = 4; normal 0 2 999 -1 2 = 4");
        play("group 0 2; relation 0 2 1 0; relation 0 0 3 0; normal 0 2 0 0 0 = 0; normal 0 2 0 0 1 = 2; "
            + "normal 0 1 3 0 1 = 0; normal 0 -2 0 0 1 = 1; normal 0 1 2 0 1 = 2; normal 0 1 -1 0 1 = 2");
    }

    private static void orders() {
        sentence("ORDER of an ELEMENT: the least number above 0, so many times it being in NOTHING; 0, if there is none.");
        play("group 0 2; order 0 0 0 0 = 1; order 0 0 0 999 = 1; order 0 1 0 0 = 0; order 0 0 1 0 = 0; relation 0 8 0 0; "
            + "order 0 1 0 0 = 8; order 0 6 0 0 = 4; order 0 -4 0 0 = 2; order 0 8 0 0 = 1; order 0 8 1 0 = 0; "
            + "order 0 0 1 0 = 0; relation 0 0 9 0; order 0 1 1 0 = 72; order 0 4 3 0 = 6; order 0 8 9 0 = 1; "
            + "order 0 999 999 0 = 8");
        play("group 0 3; relation 0 2 1 0; relation 0 0 2 1; relation 0 0 0 2; order 0 1 0 0 = 8; order 0 0 1 0 = 4; "
            + "order 0 0 0 1 = 2; order 0 1 0 1 = 8; order 0 2 0 0 = 4; order 0 2 1 0 = 1; order 0 4 0 1 = 1");
        play("group 0 3; relation 0 9 9 -9; relation 0 9 -9 9; relation 0 -9 9 9; order 0 1 0 0 = 18; order 0 1 1 0 = 18; "
            + "order 0 1 1 1 = 9; order 0 9 0 0 = 2");
        play("group 0 3; relation 0 0 4 2; order 0 0 2 1 = 2; order 0 0 1 0 = 0; order 0 1 2 1 = 0; order 0 0 6 3 = 2; "
            + "order 0 0 4 2 = 1");
    }

    private static void ringsOfGroups() {
        sentence("RINGS of a GROUP: n numbers, 0 or more, each of which divides the next one (all divide 0), such that the "
            + "GROUP is SAME as one of n GENERATORS, of which each, as often as its RING tells, is in NOTHING, and nothing "
            + "more than must be.");
        play("group 0 3; ring 0 0 = 0; ring 0 1 = 0; ring 0 2 = 0; ring 0 3 = BAD; relation 0 0 1 0; ring 0 0 = 1; "
            + "ring 0 1 = 0; ring 0 2 = 0; relation 0 4 0 0; ring 0 0 = 1; ring 0 1 = 4; ring 0 2 = 0; relation 0 0 0 6; "
            + "ring 0 0 = 1; ring 0 1 = 2; ring 0 2 = 12");
        play("group 0 3; relation 0 5 1 2; relation 0 0 2 1; ring 0 0 = 1; ring 0 1 = 1; ring 0 2 = 0; groupIs 0 2 = 1");
        play("group 0 3; relation 0 2 4 6; relation 0 4 2 0; ring 0 0 = 2; ring 0 1 = 6; ring 0 2 = 0");
        play("group 0 3; relation 0 9 9 -9; relation 0 9 -9 9; relation 0 -9 9 9; ring 0 0 = 9; ring 0 1 = 18; ring 0 2 = 18; "
            + "groupIs 0 2 = 3");
        play("group 0 2; relation 0 6 0 0; relation 0 0 4 0; ring 0 0 = 2; ring 0 1 = 12; relation 0 3 2 0; ring 0 0 = 1; "
            + "ring 0 1 = 12; relation 0 1 0 0; ring 0 0 = 1; ring 0 1 = 2");
        play("group 0 1; ring 0 0 = 0; relation 0 0 0 0; ring 0 0 = 0; relation 0 -9 0 0; ring 0 0 = 9; relation 0 8 0 0; "
            + "ring 0 0 = 1");
        sentence("OWN RINGS: those that are not 1, in order.");
        play("group 0 3; relation 0 1 0 0; relation 0 0 6 0; groupIs 0 2 = 2; ofTwo 4 0 5 -1 = 2; ofTwo 4 0 5 0 = 6; "
            + "ofTwo 4 0 5 1 = 0; ofTwo 4 0 5 2 = NONE; relation 0 0 0 1; groupIs 0 2 = 1; relation 0 0 1 0; groupIs 0 2 = 0; "
            + "ofTwo 4 0 5 -1 = 0; ofTwo 4 0 5 0 = NONE");
    }

    private static void same() {
        sentence("SAME: there is a MAP from one to the other one that is WELL, ONE TO ONE and ONTO.");
        play("same 0 1 = 1; same 0 0 = 1; group 0 1; same 0 1 = 0; same 1 0 = 0; relation 0 1 0 0; same 0 1 = 1; same 1 0 = 1");
        play("group 0 2; relation 0 9 0 0; relation 0 0 8 0; group 1 3; relation 1 0 1 0; relation 1 9 5 0; relation 1 0 7 8; "
            + "same 0 1 = 1; ring 1 2 = 72; relation 1 0 0 3; same 0 1 = 0");
        play("group 0 2; relation 0 4 0 0; group 1 2; relation 1 0 4 0; same 0 1 = 1; relation 1 4 0 0; same 0 1 = 0; "
            + "relation 0 0 8 0; same 0 1 = 0; group 2 2; relation 2 4 4 0; relation 2 0 8 0; same 0 2 = 1; same 2 1 = 0");
        play("group 0 2; relation 0 2 0 0; relation 0 0 6 0; group 1 1; relation 1 9 0 0; relation 1 6 0 0; same 0 1 = 0; "
            + "group 2 2; relation 2 6 0 0; relation 2 0 2 0; same 0 2 = 1; group 3 2; relation 3 4 0 0; relation 3 0 3 0; "
            + "same 0 3 = 0");
    }

    // ------------------------------------------------------------------ maps

    private static void mapsAndImages() {
        sentence("MAPS 0 to 7: none (at first), or from a GROUP g to a GROUP h with a table: for each GENERATOR of g a row "
            + "of as many numbers as h has GENERATORS (-99 to 99).");
        for (int f = 0; f < 8; f++) {
            Calls.playWith(f, "mapIs # 0 = BAD; mapIs # 2 = BAD; map # 2 4 = 1; mapIs # 0 = 2; mapIs # 1 = 4; many 2 = 1");
        }
        play("map 8 0 0 = BAD; map -1 0 0 = BAD; many 2 = 0; group 0 2; group 1 3; map 0 0 1; at 0 1 2 = 1000; "
            + "at 0 2 1 = BAD; at 0 1 3 = BAD; map 1 1 0; at 1 2 1 = 1000; at 1 1 2 = BAD; at 1 3 1 = BAD; "
            + "entry 1 2 1 9 = 1000; at 1 2 1 = 1009; entry 0 2 1 9 = BAD");
        play("group 0 1; map 0 0 0; entry 0 0 0 9; text 1 '9a' = 1; at 1 0 0 = 1081; "
            + "text 2 'a.a+9a+9a-a-a-a-a-a-a-a-a-a-a-a-a-a-a-a-a' = 1; at 2 0 0 = 1099; text 3 '-c' = 1; at 3 0 0 = 901; "
            + "map 4 0 0; entry 4 0 0 1; text 5 'c+e' = GREAT; text 5 'd-e' = GREAT; mapIs 5 0 = BAD");
        sentence("The IMAGE of an ELEMENT: each of these rows as often as its number tells, together.");
        play("group 0 3; group 1 2; map 0 0 1; entry 0 0 0 1; entry 0 0 1 2; entry 0 1 0 -3; entry 0 1 1 4; entry 0 2 0 5; "
            + "entry 0 2 1 -6; image 0 7 -8 9 0 = 76; image 0 7 -8 9 1 = -72; image 0 0 0 0 0 = 0; "
            + "image 0 999 -999 999 0 = 8991; image 0 999 0 0 1 = 1998; image 0 0 999 0 1 = 3996; image 0 0 0 999 1 = -5994");
        play("group 0 1; group 1 3; map 0 0 1; entry 0 0 0 1; entry 0 0 1 2; entry 0 0 2 3; image 0 5 900 900 0 = 5; "
            + "image 0 5 900 900 1 = 10; image 0 5 900 900 2 = 15; image 0 5 0 0 3 = BAD; map 1 1 0; entry 1 0 0 1; "
            + "entry 1 1 0 2; entry 1 2 0 3; image 1 1 10 100 0 = 321; image 1 1 10 100 1 = BAD; map 2 3 1; "
            + "image 2 9 9 9 2 = 0; map 3 1 3; image 3 9 9 9 0 = BAD");
    }

    private static void well() {
        sentence("WELL: the IMAGE of each RELATION of g is in NOTHING of h.");
        play("group 0 2; group 1 1; map 0 0 1; entry 0 0 0 3; entry 0 1 0 5; mapIs 0 2 = 1; relation 1 6 0 0; mapIs 0 2 = 1; "
            + "relation 0 2 0 0; mapIs 0 2 = 1; relation 0 2 6 0; mapIs 0 2 = 1; relation 0 1 9 0; mapIs 0 2 = 1; "
            + "relation 0 0 1 0; mapIs 0 2 = 0; undo; mapIs 0 2 = 1; relation 0 1 0 0; mapIs 0 2 = 0");
        play("group 0 1; group 1 1; map 0 0 1; entry 0 0 0 1; relation 0 4 0 0; mapIs 0 2 = 0; relation 1 8 0 0; "
            + "mapIs 0 2 = 0; relation 0 8 0 0; mapIs 0 2 = 0; relation 1 4 0 0; mapIs 0 2 = 1");
        play("group 0 1; relation 0 1 0 0; group 1 1; map 0 0 1; mapIs 0 2 = 1; entry 0 0 0 1; mapIs 0 2 = 0; map 1 3 1; "
            + "mapIs 1 2 = 1; relation 3 5 5 5; mapIs 1 2 = 1; map 2 0 3; mapIs 2 2 = 1");
        play("group 0 3; relation 0 0 0 0; relation 0 0 0 0; relation 0 0 0 0; relation 0 0 0 1; group 1 1; map 0 0 1; "
            + "mapIs 0 2 = 1; entry 0 2 0 1; mapIs 0 2 = 0; entry 0 2 0 0; entry 0 1 0 1; mapIs 0 2 = 1");
    }

    private static void kernels() {
        sentence("KERNEL: ELEMENTS of g of which the IMAGE is in NOTHING of h.");
        play("group 0 1; group 1 1; relation 1 6 0 0; map 0 0 1; entry 0 0 0 4; part 0 0 0 = 0; part 0 0 -1 = 1; "
            + "whence 0 0 0 0 0 = 0; whence 0 2 0 0 0 = 2; whence 0 -2 0 0 0 = 1; whence 0 1 0 0 0 = NONE; relation 0 6 0 0; "
            + "part 0 0 0 = 2; part 0 0 1 = NONE");
        sentence("ONE TO ONE: they are all in NOTHING of g.");
        play("group 0 1; relation 0 3 0 0; group 1 1; relation 1 9 0 0; map 0 0 1; entry 0 0 0 3; mapIs 0 3 = 1; "
            + "entry 0 0 0 -6; mapIs 0 3 = 1; entry 0 0 0 9; mapIs 0 3 = 0; entry 0 0 0 0; mapIs 0 3 = 0; relation 0 1 0 0; "
            + "mapIs 0 3 = 1");
        play("group 0 2; relation 0 2 1 0; relation 0 0 3 0; map 0 0 0; entry 0 0 0 1; entry 0 1 1 1; mapIs 0 3 = 1; "
            + "entry 0 0 1 3; mapIs 0 3 = 1; entry 0 0 0 -1; mapIs 0 2 = 0");
        play("group 0 2; relation 0 3 1 0; relation 0 1 4 0; group 1 1; relation 1 9 0 0; relation 1 2 0 0; map 0 0 1; "
            + "mapIs 0 3 = 0; map 1 0 0; entry 1 0 0 1; entry 1 1 1 1; mapIs 1 3 = 1; mapIs 1 4 = 1; entry 1 0 0 0; "
            + "mapIs 1 2 = 0");
        sentence("What it REACHES: ELEMENTS of h that are ONE with some IMAGE.");
        play("group 0 1; group 1 2; relation 1 0 4 0; map 0 0 1; entry 0 0 0 2; entry 0 0 1 1; whence 0 2 1 0 0 = 1; "
            + "whence 0 2 5 0 0 = 1; whence 0 -4 2 0 0 = -2; whence 0 2 2 0 0 = NONE; whence 0 1 0 0 0 = NONE; "
            + "whence 0 8 0 0 0 = 4; part 0 1 0 = 0; part 0 1 1 = NONE");
        sentence("ONTO: these are all.");
        play("group 0 1; group 1 1; map 0 0 1; mapIs 0 4 = 0; entry 0 0 0 -1; mapIs 0 4 = 1; entry 0 0 0 2; mapIs 0 4 = 0; "
            + "relation 1 9 0 0; mapIs 0 4 = 1; entry 0 0 0 6; mapIs 0 4 = 0; entry 0 0 0 0; mapIs 0 4 = 0; relation 1 1 0 0; "
            + "mapIs 0 4 = 1; map 1 5 4; mapIs 1 4 = 1");
        play("group 0 2; group 1 2; map 0 0 1; entry 0 0 0 2; entry 0 0 1 1; entry 0 1 0 1; entry 0 1 1 1; mapIs 0 4 = 1; "
            + "mapIs 0 3 = 1; entry 0 1 1 -1; mapIs 0 4 = 0; mapIs 0 3 = 1; relation 1 3 0 0; mapIs 0 4 = 0; "
            + "relation 1 1 0 0; mapIs 0 4 = 1; mapIs 0 3 = 0");
    }

    private static void parts() {
        sentence("KERNEL (by NOTHING of g), what it REACHES (by NOTHING of h), and what it LEAVES (h, all that it REACHES "
            + "being in NOTHING, too) are groups, with OWN RINGS.");
        play("group 0 2; relation 0 8 0 0; relation 0 0 4 0; group 1 1; relation 1 4 0 0; map 0 0 1; entry 0 0 0 1; "
            + "entry 0 1 0 2; part 0 0 -1 = 2; part 0 0 0 = 2; part 0 0 1 = 4; part 0 0 2 = NONE; part 0 1 -1 = 1; "
            + "part 0 1 0 = 4; part 0 2 -1 = 0; part 0 2 0 = NONE");
        play("group 0 3; relation 0 2 4 6; group 1 1; map 0 0 1; entry 0 0 0 1; entry 0 1 0 -2; entry 0 2 0 1; "
            + "part 0 0 -1 = 2; part 0 0 0 = 2; part 0 0 1 = 0; part 0 1 -1 = 1; part 0 1 0 = 0; part 0 2 -1 = 0");
        play("group 0 3; relation 0 4 0 0; relation 0 0 4 0; relation 0 0 0 4; group 1 1; relation 1 4 0 0; map 0 0 1; "
            + "entry 0 0 0 1; entry 0 1 0 1; entry 0 2 0 2; part 0 0 -1 = 2; part 0 0 0 = 4; part 0 0 1 = 4; part 0 1 0 = 4");
        play("group 0 2; group 1 3; relation 1 0 0 6; map 0 0 1; entry 0 0 0 2; entry 0 1 2 4; part 0 0 -1 = 1; "
            + "part 0 0 0 = 0; part 0 1 -1 = 2; part 0 1 0 = 3; part 0 1 1 = 0; part 0 2 -1 = 3; part 0 2 0 = 2; "
            + "part 0 2 1 = 2; part 0 2 2 = 0; part 0 2 3 = NONE");
        play("group 0 3; relation 0 6 0 0; relation 0 3 2 1; group 1 2; relation 1 3 0 0; map 0 0 1; entry 0 0 0 1; "
            + "entry 0 1 0 1; entry 0 2 0 1; part 0 0 -1 = 2; part 0 0 0 = 2; part 0 0 1 = 0; part 0 1 -1 = 1; "
            + "part 0 1 0 = 3; part 0 2 -1 = 1; part 0 2 0 = 0");
        play("map 0 0 1; part 0 0 -1 = 0; part 0 1 -1 = 0; part 0 2 -1 = 0; part 0 0 0 = NONE; group 2 2; relation 2 5 0 0; "
            + "map 1 2 1; part 1 0 0 = 5; part 1 0 1 = 0; map 2 1 2; part 2 2 0 = 5; part 2 2 1 = 0; part 2 0 -1 = 0");
    }

    /** RELATIONS that lead by 1, or that are none of the KERNEL's own rows. */
    private static void partsByLeads() {
        play("group 0 2; relation 0 1 1 0; map 0 0 5; part 0 0 -1 = 1; part 0 0 0 = 0; relation 0 0 4 0; part 0 0 0 = 4; "
            + "part 0 0 1 = NONE; relation 0 0 3 0; part 0 0 -1 = 0");
        play("group 0 3; relation 0 1 2 3; relation 0 0 1 5; group 1 1; map 0 0 1; part 0 0 -1 = 1; part 0 0 0 = 0; "
            + "part 0 1 -1 = 0; part 0 2 0 = 0; relation 0 0 0 6; part 0 0 0 = 6; relation 1 1 0 0; part 0 0 0 = 6; "
            + "part 0 2 -1 = 0");
        play("group 0 2; relation 0 2 2 0; relation 0 0 6 0; group 1 1; relation 1 2 0 0; map 0 0 1; entry 0 0 0 1; "
            + "entry 0 1 0 1; part 0 0 -1 = 1; part 0 0 0 = 6; part 0 1 0 = 2");
    }

    private static void exact() {
        sentence("Two MAPS are EXACT one behind the other, if what the first REACHES is the KERNEL of the second.");
        play("group 0 1; group 1 1; relation 1 8 0 0; group 2 1; relation 2 4 0 0; map 0 0 1; map 1 1 2; entry 0 0 0 4; "
            + "entry 1 0 0 1; exact 0 1 = 1; entry 0 0 0 2; exact 0 1 = 0; entry 0 0 0 8; exact 0 1 = 0; entry 0 0 0 -4; "
            + "exact 0 1 = 1; entry 1 0 0 2; exact 0 1 = 0; entry 0 0 0 6; exact 0 1 = 1; entry 1 0 0 4; exact 0 1 = 0; "
            + "entry 0 0 0 3; exact 0 1 = 1");
        play("group 0 2; group 1 2; group 2 1; relation 2 6 0 0; map 0 0 1; entry 0 0 0 2; entry 0 0 1 4; entry 0 1 1 3; "
            + "map 1 1 2; entry 1 0 0 5; entry 1 1 0 2; exact 0 1 = 1; entry 0 0 1 7; exact 0 1 = 1; entry 0 0 1 -2; "
            + "exact 0 1 = 1; entry 0 0 1 2; exact 0 1 = 0; entry 0 0 1 1; entry 0 1 1 6; exact 0 1 = 0");
        play("group 0 1; map 0 1 0; map 1 0 0; entry 1 0 0 5; exact 0 1 = 1; map 2 0 1; exact 1 2 = 0; entry 1 0 0 -1; "
            + "exact 1 2 = 1; exact 2 0 = 1");
        play("group 0 2; group 1 3; group 2 1; map 0 0 1; entry 0 0 0 1; entry 0 1 1 1; entry 0 1 2 1; map 1 1 2; "
            + "entry 1 1 0 1; entry 1 2 0 -1; exact 0 1 = 1; entry 0 0 0 2; exact 0 1 = 0; entry 0 0 0 1; entry 1 0 0 1; "
            + "exact 0 1 = 0; entry 1 0 0 0; entry 1 1 0 3; exact 0 1 = 0; entry 1 2 0 -3; exact 0 1 = 1");
        play("group 0 1; relation 0 7 0 0; map 0 0 0; entry 0 0 0 7; map 1 0 0; entry 1 0 0 1; exact 0 1 = 1; exact 1 0 = 1; "
            + "exact 0 0 = 0; exact 1 1 = 0");
    }

    private static void changes() {
        sentence("CHANGES: a GROUP that is made anew (with MAPS that are none by that), a RELATION, a MAP that is made anew, "
            + "an entry, a MAP by a text, a MOVE that comes, MOVES that go (also if there were none).");
        play("group 0 2; relation 0 5 1 0; map 0 0 1; map 1 1 0; map 2 1 1; many 5 = 5; group 0 2; many 5 = 6; many 2 = 1; "
            + "many 1 = 0; undo = 5; many 2 = 3; many 1 = 1; mapIs 0 0 = 0; mapIs 1 1 = 0; step 0 0 = 5; "
            + "normal 0 5 0 0 1 = -1");
        play("group 0 1; relation 0 6 0 0; many 5 = 2; relation 0 4 0 0; many 5 = 3; step 0 0 = 2; undo = 2; step 0 0 = 6; "
            + "groupIs 0 1 = 1; undo = 1; step 0 0 = 0; relation 0 0 0 0; undo = 1; groupIs 0 1 = 0");
        play("group 0 1; map 3 0 0; entry 3 0 0 7; map 3 0 1; many 5 = 4; undo = 3; mapIs 3 1 = 0; at 3 0 0 = 1007; undo = 2; "
            + "at 3 0 0 = 1000; entry 3 0 0 0 = 1000; many 5 = 3; undo = 2; undo = 1; mapIs 3 0 = BAD; undo = 0; "
            + "groupIs 0 0 = 0; undo = NONE");
        play("group 0 1; map 0 0 0; entry 0 0 0 7; text 0 'a.a' = 1; many 5 = 4; at 0 0 0 = 1049; text 1 'a' = 1; many 5 = 5; "
            + "many 2 = 2; undo = 4; many 2 = 1; undo = 3; at 0 0 0 = 1007; text 1 'a+' = -102; text 1 'b' = -300; many 5 = 3");
        play("move 0 0; move 1 5; move 0 1; many 5 = 3; stop 0 = 1; many 5 = 4; many 4 = 1; stop 0 = 1; many 5 = 5; "
            + "stop 2 = 1; many 5 = 6; undo = 5; undo = 4; many 4 = 1; undo = 3; many 4 = 3; undo = 2; many 4 = 2; "
            + "stop 3 = 2; undo = 2; undo = 1; undo = 0; many 4 = 0; stop 1 = 0; many 5 = 1; undo = 0");
        play("sheet 0 1 3; put 0 0 5; lay 0 0 0 0 0; hold 1 0; add 0 0; rest 0; tape 'a'; keep; text 9; many 5 = 0; "
            + "undo = NONE; taken 1 11 = 3; many 6 = 1");
        play("group 0 1; relation 0 6 0 0; group 0 1; relation 0 4 0 0; step 0 0 = 4; undo = 3; step 0 0 = 0; undo = 2; "
            + "step 0 0 = 6; undo = 1; step 0 0 = 0; undo = 0; groupIs 0 0 = 0");
        changesOfMoves();
    }

    /** MOVES that went come again with the MAPS that they had, though others came in their place. */
    private static void changesOfMoves() {
        play("group 0 1; group 1 1; group 2 2; map 0 0 1; entry 0 0 0 2; map 1 2 2; entry 1 0 1 3; entry 1 1 0 5; move 2 0; "
            + "stop 2; move 2 1; run 2 1 1 0 1 = 3; run 0 7 0 0 0 = STATE; undo; undo; run 0 7 0 0 0 = 14; run 0 7 0 0 3 = 1; "
            + "run 2 1 1 0 1 = STATE");
        play("group 3 1; group 4 2; group 5 3; map 0 3 4; entry 0 0 1 2; map 1 4 5; entry 1 1 2 3; move 1 2; move 2 0; "
            + "move 0 0; move 2 1; move 3 8; run 3 5 0 0 2 = 60; run 3 5 0 0 3 = 5; stop 1 = 4; run 3 5 0 0 2 = 30; "
            + "stop 0 = 3; run 3 5 0 0 2 = 30; run 3 5 0 0 3 = 5; run 0 0 0 0 0 = STATE; undo; undo; run 3 5 0 0 2 = 60; "
            + "stop 2 = 3; run 3 5 0 0 0 = 11; run 3 5 0 0 3 = 3");
        play("group 0 1; move 0 0; move 1 7; stop 0; move 3 0; run 0 1 0 0 0 = 7; undo; undo; run 0 1 0 0 0 = 14; keep; "
            + "stop 1; stop 0; move 1 3; run 0 1 0 0 0 = 3; again = 0; run 0 1 0 0 0 = 14; many 4 = 2");
    }

    private static void latestChanges() {
        sentence("The latest 20 of them can be undone, the last first.");
        Calls calls = play("group 0 1; map 0 0 0");
        for (int v = 1; v <= 9; v++) {
            calls.then("entry 0 0 0 " + v + " = " + (999 + v) + "; entry 0 0 0 -" + v + "; entry 0 0 0 " + v + "; "
                + "many 5 = " + Math.min(20, 2 + 3 * v));
        }
        int[] before = {-9, 9, 8, -8, 8, 7, -7, 7, 6, -6, 6, 5, -5, 5, 4, -4, 4, 3, -3, 3};
        for (int i = 0; i < 20; i++) {
            calls.then("undo = " + (19 - i) + "; at 0 0 0 = " + (1000 + before[i]));
        }
        calls.then("undo = NONE; at 0 0 0 = 1003; entry 0 0 0 1; undo = 0; at 0 0 0 = 1003; undo = NONE");
        Calls full = new Calls();
        for (int i = 0; i < 19; i++) {
            full.then("group 0 " + i % 4);
        }
        full.then("many 5 = 19; group 0 3 = 2; many 5 = 20; group 0 1 = 3; many 5 = 20; undo = 19; groupIs 0 0 = 3; "
            + "group 0 2; many 5 = 20; undo = 19");
        for (int i = 18; i >= 0; i--) {
            full.then("undo = " + i);
        }
        full.then("undo = NONE; groupIs 0 0 = 0");
    }

    // ------------------------------------------------------------------ two groups

    private static final String TWO = "group 0 1; group 1 1; relation 1 6 0 0; group 2 1; relation 2 9 0 0; group 3 1; "
        + "relation 3 1 0 0;";

    private static void pairs() {
        sentence("HOM: s, if r is 0; 1, if r is not, but s is 0; else the greatest number that divides both.");
        play(TWO + "ofTwo 0 0 1 0 = 6; ofTwo 0 0 0 0 = 0; ofTwo 0 0 0 -1 = 1; ofTwo 0 0 3 -1 = 0; ofTwo 0 1 0 -1 = 0; "
            + "ofTwo 0 3 0 -1 = 0; ofTwo 0 1 2 0 = 3; ofTwo 0 2 1 0 = 3; ofTwo 0 1 1 0 = 6; ofTwo 0 1 3 -1 = 0; "
            + "ofTwo 0 3 1 -1 = 0; ofTwo 0 3 3 -1 = 0");
        sentence("TENSOR: r, if s is 0; s, if r is 0; else the greatest that divides both.");
        play(TWO + "ofTwo 1 1 0 0 = 6; ofTwo 1 0 1 0 = 6; ofTwo 1 0 0 0 = 0; ofTwo 1 0 0 1 = NONE; ofTwo 1 3 0 -1 = 0; "
            + "ofTwo 1 0 3 -1 = 0; ofTwo 1 1 2 0 = 3; ofTwo 1 2 1 0 = 3; ofTwo 1 2 2 0 = 9; ofTwo 1 1 3 -1 = 0");
        sentence("TORSION: 1, if one is 0; else the greatest that divides both.");
        play(TWO + "ofTwo 2 0 1 -1 = 0; ofTwo 2 1 0 -1 = 0; ofTwo 2 0 0 -1 = 0; ofTwo 2 1 2 0 = 3; ofTwo 2 2 1 0 = 3; "
            + "ofTwo 2 1 1 0 = 6; ofTwo 2 3 2 -1 = 0");
        sentence("EXTENSION: 1, if r is 0; r, if r is not, but s is 0; else the greatest that divides both.");
        play(TWO + "ofTwo 3 0 1 -1 = 0; ofTwo 3 0 0 -1 = 0; ofTwo 3 1 0 0 = 6; ofTwo 3 2 0 0 = 9; ofTwo 3 3 0 -1 = 0; "
            + "ofTwo 3 1 2 0 = 3; ofTwo 3 2 1 0 = 3; ofTwo 3 2 2 0 = 9; ofTwo 3 0 3 -1 = 0");
        sentence("OF TWO GROUPS, of all pairs of a RING r of the first and a RING s of the second one");
        String groups = "group 0 3; relation 0 0 4 0; relation 0 0 0 6; group 1 2; relation 1 0 9 0;";
        // RINGS 2, 12, 0 and 9, 0
        play(groups + "ofTwo 0 0 1 -1 = 3; ofTwo 0 0 1 0 = 3; ofTwo 0 0 1 1 = 9; ofTwo 0 0 1 2 = 0; ofTwo 0 0 1 3 = NONE");
        play(groups + "ofTwo 0 1 0 -1 = 3; ofTwo 0 1 0 0 = 6; ofTwo 0 1 0 1 = 12; ofTwo 0 1 0 2 = 0; ofTwo 0 1 0 3 = NONE");
        play(groups + "ofTwo 1 0 1 -1 = 4; ofTwo 1 0 1 0 = 3; ofTwo 1 0 1 1 = 6; ofTwo 1 0 1 2 = 36; ofTwo 1 0 1 3 = 0; "
            + "ofTwo 1 1 0 2 = 36");
        play(groups + "ofTwo 2 0 1 -1 = 1; ofTwo 2 0 1 0 = 3; ofTwo 2 1 0 0 = 3; ofTwo 3 0 1 -1 = 2; ofTwo 3 0 1 0 = 6; "
            + "ofTwo 3 0 1 1 = 12");
    }

    private static void sums() {
        sentence("SUM: all RINGS of the first, all of the second one (no pairs).");
        play(TWO + "ofTwo 4 1 2 -1 = 2; ofTwo 4 1 2 0 = 3; ofTwo 4 1 2 1 = 18; ofTwo 4 0 0 -1 = 2; ofTwo 4 0 0 1 = 0; "
            + "ofTwo 4 3 3 -1 = 0; ofTwo 4 3 1 0 = 6; ofTwo 4 5 1 0 = 6; ofTwo 4 1 5 0 = 6; ofTwo 4 5 5 -1 = 0; "
            + "ofTwo 4 0 1 0 = 6; ofTwo 4 0 1 1 = 0");
        play("group 0 3; group 1 3; ofTwo 4 0 1 -1 = 6; ofTwo 4 0 1 5 = 0; ofTwo 4 0 1 6 = NONE; ofTwo 0 0 1 -1 = 9; "
            + "ofTwo 0 0 1 8 = 0; ofTwo 0 0 1 9 = NONE");
        sentence("The group is that of as many GENERATORS as there are of these numbers, each as often as its number tells "
            + "being in NOTHING.");
        play("group 0 2; relation 0 8 0 0; relation 0 0 9 0; group 1 2; relation 1 2 0 0; relation 1 0 4 0; "
            + "ofTwo 4 0 1 -1 = 3; ofTwo 4 0 1 0 = 2; ofTwo 4 0 1 1 = 4; ofTwo 4 0 1 2 = 72; ofTwo 0 0 1 -1 = 2; "
            + "ofTwo 0 0 1 0 = 2; ofTwo 0 0 1 1 = 4");
        play("group 0 3; relation 0 9 9 -9; relation 0 9 -9 9; relation 0 -9 9 9; group 1 3; relation 1 8 7 0; "
            + "relation 1 0 9 8; relation 1 7 0 9; ring 1 2 = 1040; ofTwo 4 0 1 -1 = 3; ofTwo 4 0 1 0 = 18; "
            + "ofTwo 4 0 1 1 = 18; ofTwo 4 0 1 2 = 9360; ofTwo 1 0 1 0 = 2; ofTwo 1 0 1 -1 = 2");
    }

    // ------------------------------------------------------------------ texts

    /** Of one endless GENERATOR: a 2, b 3, c 5, d 7, e 1, f -1, g 9, and h none. */
    private static final String TABLES = "group 0 1; map 0 0 0; entry 0 0 0 2; map 1 0 0; entry 1 0 0 3; map 2 0 0; "
        + "entry 2 0 0 5; map 3 0 0; entry 3 0 0 7; map 4 0 0; entry 4 0 0 1; map 5 0 0; entry 5 0 0 -1; map 6 0 0; "
        + "entry 6 0 0 9;";

    private static void told(String text, int v) {
        play(TABLES + "text 7 '" + text + "' = 1; at 7 0 0 = " + (1000 + v) + "; mapIs 7 0 = 0; mapIs 7 1 = 0; many 6 = 0");
    }

    private static void fault(String text, int place) {
        play(TABLES + "text 7 '" + text + "' = " + (-100 - place) + "; many 6 = 0; mapIs 7 0 = BAD; many 5 = 15");
    }

    private static void tape() {
        sentence("THE TAPE takes bytes, 100 at most; text() uses it up.");
        String ninety = " ".repeat(90);
        play(TABLES + "tape '" + ninety + "' = 90; feed 97 8 = 98; feed 0 3 = FULL; many 6 = 98; feed 0 2 = 100; "
            + "feed 0 1 = FULL; text 7 = -191; many 6 = 0; feed 97 1 = 1; text 7 = 1; at 7 0 0 = 1002; many 6 = 0; "
            + "text 7 = -100");
        play(TABLES + "tape '" + ninety + "b+' = 92; tape '       c' = 100; text 7 = 1; at 7 0 0 = 1008; "
            + "tape '" + ninety + "' = 90; text 8 = BAD; many 6 = 90; text -1 = BAD; many 6 = 90; text 7 = -190; many 6 = 0; "
            + "tape 'h'; text 6 = 1; many 6 = 0");
        play("tape 'a'; text 0 = -300; many 6 = 0; text 0 = -100; tape '" + ninety + "' = 90; many 6 = 90");
    }

    private static void grammar() {
        sentence("TEXT: SUM, till the end.");
        told("a", 2);
        told("a+b", 5);
        fault("a b", 2);
        fault("a)", 1);
        fault("(a)b", 3);
        fault("a+b(", 3);
        fault("aa", 1);
        sentence("SUM: [ - ] CHAIN { + CHAIN | - CHAIN }      CHAIN: ONE { . ONE }      ONE: [ NUMBER ] ( MAP | \"(\" SUM "
            + "\")\" )      MAP: a | b | c | d | e | f | g | h");
        told("-a", -2);
        told("-a.b", -6);
        told("-a+b", 1);
        told("-a-b", -5);
        told("a-b-c", -6);
        told("a-b+c", 4);
        told("a+b.c", 17);
        told("a.b+c", 11);
        told("a.b.c.b", 90);
        told("(a+b).c", 25);
        told("a.(b-c)", -4);
        told("-(a+b)+c", 0);
        told("a-(b-c)", 4);
        told("a-(-b)", 5);
        told("(-(-(-a)))", -2);
        told("((a))", 2);
        told("a+b+c+d+e+f+g", 26);
        for (String text : new String[] {"+a", "--a", ".a", ")", "*", "i", "A", "`", "~", "\t", "\u00e1"}) {
            fault(text, text.equals("--a") ? 1 : 0);
        }
        for (String text : new String[] {"a+-b", "a-+b", "a+.b", "a..b", "a.-b", "a+)b", "a(.b"}) {
            fault(text, text.equals("a(.b") ? 1 : 2);
        }
        fault("()", 1);
        fault("(-)", 2);
        fault("a+(b+)", 5);
        sentence("a is MAP 0, b MAP 1, ..; x . y: x, then y; - ahead: taken away.");
        String[] maps = {"a", "b", "c", "d", "e", "f", "g"};
        int[] numbers = {2, 3, 5, 7, 1, -1, 9};
        for (int f = 0; f < 7; f++) {
            told(maps[f], numbers[f]);
            told("-" + maps[f], -numbers[f]);
        }
        play(TABLES + "text 7 'h' = -300; map 7 0 0; entry 7 0 0 8; text 0 'h' = 1; at 0 0 0 = 1008; text 0 'i' = -100; "
            + "text 0 '`' = -100");
        play("group 0 2; map 0 0 0; entry 0 0 1 1; map 1 0 0; entry 1 1 0 1; entry 1 1 1 1; text 2 'a.b' = 1; "
            + "at 2 0 0 = 1001; at 2 0 1 = 1001; at 2 1 0 = 1000; at 2 1 1 = 1000; text 2 'b.a' = 1; at 2 0 0 = 1000; "
            + "at 2 0 1 = 1000; at 2 1 0 = 1000; at 2 1 1 = 1001; text 2 '-b' = 1; at 2 1 0 = 999; at 2 0 0 = 1000");
        numbersAndBlanks();
    }

    private static void numbersAndBlanks() {
        sentence("A NUMBER (one digit): so many times.");
        for (int times = 0; times <= 9; times++) {
            told(times + "a", 2 * times);
            told("-" + times + "(a+b)", -5 * times);
        }
        told("2a.3b", 36);
        told("2a+3b", 13);
        told("a.2b", 12);
        told("2(a.b)+a", 14);
        told("3(2a)", 12);
        fault("10a", 1);
        fault("2", 1);
        fault("2+a", 1);
        fault("2.a", 1);
        fault("2-a", 1);
        fault("a2", 1);
        fault("(a)2", 3);
        fault("2)", 1);
        fault("a.2", 3);
        fault(":a", 0);
        fault("/a", 0);
        sentence("Blanks (32) may stand anywhere.");
        told("  -  2  (  a  +  b  )  .  c  -  3  d  ", -71);
        told(" a", 2);
        told("a ", 2);
        told("2 a", 4);
        fault("1 2a", 2);
        fault("a\tb", 1);
        fault("\ta", 0);
        fault("a\n", 1);
        fault("a\u00a0", 1);
        fault("a" + (char) 0, 1);
        fault((char) 31 + "a", 0);
        fault("!a", 0);
        sentence("At most 4 \"(\" are open within one another.");
        told("((((a))))", 2);
        told("((((a))))+((((b))))", 5);
        told("(a)+(a)+(a)+(a)+(a)+(a)", 12);
        told("(((a).(a+(a)))).((((a+a))))", 32);
        fault("(((((a)))))", 4);
        fault("2(2(2(2(2(a)))))", 9);
        fault("((((a.(b)))))", 6);
        fault("((((a))))+(((((a)))))", 14);
        fault("((((", 4);
        fault("(((((", 4);
    }

    private static void faults() {
        sentence("FAULT: the place (from 0) of the first byte that can't stand there, or the end (how many bytes there are), "
            + "if more must come.");
        fault("", 0);
        fault("   ", 3);
        fault("-", 1);
        fault("- ", 2);
        fault("a+", 2);
        fault("a +  ", 5);
        fault("a.", 2);
        fault("7", 1);
        fault("7  ", 3);
        fault("(", 1);
        fault("(a", 2);
        fault("(a  ", 4);
        fault("((a)", 4);
        fault("(a+", 3);
        fault("3(a.b-", 6);
        fault("a  b", 3);
        fault("a,b", 1);
        fault("h+,", 2);
        fault("  )", 2);
        fault("a+b)+", 3);
        fault("(((a))", 6);
        String ninety = " ".repeat(90);
        play(TABLES + "tape '" + ninety + "' = 90; tape '(a+b+c+d+e' = 100; text 7 = -200; tape '" + ninety + "' = 90; "
            + "tape 'a+b+c+d+e+' = 100; text 7 = -200; tape '" + ninety + "' = 90; tape 'a+b+c+d+e)' = 100; text 7 = -199; "
            + "tape '" + ninety + "' = 90; tape '         d' = 100; text 7 = 1; at 7 0 0 = 1007");
    }

    /** Of one endless GENERATOR: a 8, b 5, f 1, g 11, d 13, h 0; c goes to a ring of 7, e is none. */
    private static final String GREAT = "group 0 1; group 1 1; relation 1 7 0 0; map 0 0 0; entry 0 0 0 8; map 1 0 0; "
        + "entry 1 0 0 5; map 5 0 0; entry 5 0 0 1; map 7 0 0; text 6 'b+6f'; text 3 'a+b'; map 2 0 1; entry 2 0 0 1;";
    private static final String THOUSAND = "a.b.b.b";

    /** Nothing of the sum is left but 0, so that -16 tells of a number on the way. */
    private static void way(String sum, boolean isGreat) {
        String text = "0(" + sum.replace("T", THOUSAND) + ")";
        play(GREAT + "text 4 '" + text + "' = " + (isGreat ? "GREAT; mapIs 4 0 = BAD" : "1; at 4 0 0 = 1000"));
    }

    private static void numbersOnTheWay() {
        sentence("A table that is worked out by ., + or -, or by a NUMBER (from the left on, what is in brackets first) must "
            + "have numbers from -1000000000 to 1000000000.");
        way("T.T.T", false);
        way("-T.T.T", false);
        way("T.T.T+f", true);
        way("T.T.T-f", false);
        way("-T.T.T-f", true);
        way("-T.T.T+f", false);
        way("(T+f).(T.(T-f)+f)", true);
        way("(T+f).(T.(T-f)+f-f)", false);
        way("(-T-f).(T.(T-f)+f)", true);
        way("7(g.d.(T.(T-f)+f))", true);
        way("7(g.d.(T.(T-f)+f)-f)", false);
        way("7(f-g.d.(T.(T-f)+f))", false);
        way("7(-g.d.(T.(T-f)+f))", true);
        way("2(T.T.T)", true);
        way("1(T.T.T)", false);
        way("T.T.T+T.T.T", true);
        way("T.T.T-T.T.T", false);
        way("T.T.T-f+f", false);
        way("T.T.T+f-f", true);
        way("f-f+T.T.T", false);
        way("f+T.T.T-f", true);
        way("T.T.T.2f.h", true);
        way("h.T.T.T.2f", false);
        way("T.T.T.(2f.h)", false);
        way("T.T.T.h.2f", false);
        way("0T.T.T.T.T", false);
        way("T.T.0T.T.T", false);
        way("T.(T.T.2T)", true);
        way("T.T.T.T", true);
        way("2T.T.T", true);
        way("T.T.T+(f-f)", false);
        way("T.T.T+(f-2f)+f", false);
        way("T.T.T-(f-2f)", true);
        play(GREAT + "text 4 '" + "T.T.T.c".replace("T", THOUSAND) + "' = 1; at 4 0 0 = 1006; "
            + "text 4 '" + "(T.T.T+f).c".replace("T", THOUSAND) + "' = GREAT");
        play("group 0 3; map 0 0 0; entry 0 2 2 -9; map 1 0 0; entry 1 0 2 9; entry 1 2 2 9; map 2 0 0; "
            + "text 3 '0(b.a.a.a.a.a.a.a.a)' = 1; text 3 '0(b.a.a.a.a.a.a.a.a.a)' = GREAT; text 3 '0(a.a.a.a.a.a.a.a.a)' = 1; "
            + "text 3 '0(2(a.a.a.a.a.a.a.a.a)+2(a.a.a.a.a.a.a.a.a))' = GREAT; text 3 '0(2(a.a.a.a.a.a.a.a.a))' = 1");
    }

    private static void waysOfText() {
        sentence("-100 less its FAULT; -300: one that it names is no MAP; "
            + "-301: one is not from the GROUP that the one ahead of . is to, or those that are added, taken away, are not "
            + "from the same GROUP to the same one; "
            + "-16: a number on the way is too great, or one of the table told is above 99, or below -99.");
        // a, f from 0 to 0, b from 0 to 1, c from 1 to 1, d from 1 to 0; the others are none
        String maps = "group 0 1; group 1 1; map 0 0 0; entry 0 0 0 9; map 1 0 1; map 2 1 1; map 3 1 0; map 5 0 0; "
            + "entry 5 0 0 1;";
        String[] unfit = {"b.a", "a.c", "b.b", "a+b", "a-b", "b+a", "a+d", "b-d", "a+b+a", "b.a.a", "a+b-b+a", "(b.a).a",
            "a+(c)", "0b+a", "a+0c", "b.(d.b.a).b",
            "a.(c)", "(a+b).c", "a.9(9(9(9a))).a.a.a.a.a+b", "9(9a)+c", "b.c.d.c"};
        for (String text : unfit) {
            play(maps + "text 7 '" + text + "' = -301; many 5 = 9; mapIs 7 0 = BAD; many 6 = 0");
        }
        String[] none = {"e", "h", "e+a", "a+e", "e.a.a", "a.e+b", "a+b+e", "e+e-a", "0e", "(g)", "a.9(9(9(9a))).a.a.a.a.a+e",
            "b.a.h"};
        for (String text : none) {
            play(maps + "text 7 '" + text + "' = -300; many 5 = 9; mapIs 7 0 = BAD; many 6 = 0");
        }
        String[] faulty = {"e+ = -102", "a+b) = -103", "b.a. = -104", "e i = -102", "9(9a)) = -105",
            "a.9(9(9(9a))).a.a.a.a.a+ = -124"};
        for (String text : faulty) {
            play(maps + "text 7 '" + text.replace(" = ", "' = ") + "; many 5 = 9; mapIs 7 0 = BAD; many 6 = 0");
        }
        String[] fit = {"a+f = 1", "b.d.b.c.d = 1", "b-b.c+a.b = 1", "f.b.d+a = 1", "9a = 1", "9a+9a+f = GREAT", "9a+a+9f = 1",
            "9a+a+9f+f = GREAT", "-9a-a-9f = 1",
            "-9a-a-9f-f = GREAT", "9a+a+9f+f-f = 1", "9(9a) = GREAT"};
        for (String text : fit) {
            play(maps + "text 7 '" + text.replace(" = ", "' = ") + "; many 6 = 0");
        }
        play(maps + "text 7 '9a+a+9f'; at 7 0 0 = 1099; text 7 '-9a-a-9f'; at 7 0 0 = 901; many 5 = 11; "
            + "text 7 '-9a-a-9f-f' = GREAT; at 7 0 0 = 901; many 5 = 11");
        play("map 0 0 0; text 1 'a' = 1; text 2 '9(a+a).a-a' = 1; many 2 = 3; map 3 0 1; text 4 'd.a' = -301; "
            + "text 4 'd.d' = -301; text 4 'a.d' = 1; mapIs 4 1 = 1");
    }

    private static void tablesTold() {
        sentence("The table that is told has the rows of it, NORMAL by the GROUP that it goes to.");
        play("group 0 1; group 1 1; relation 1 9 0 0; map 0 0 1; entry 0 0 0 -9; text 1 'a' = 1; at 1 0 0 = 1000; "
            + "entry 0 0 0 -1; text 1 'a' = 1; at 1 0 0 = 1008; at 0 0 0 = 999; text 0 'a' = 1; at 0 0 0 = 1008; "
            + "text 1 '9a+9a+9a-a' = 1; at 1 0 0 = 1001; text 1 '2a' = 1; at 1 0 0 = 1007");
        play("group 0 2; group 1 2; relation 1 3 -5 0; map 0 0 1; entry 0 0 0 4; entry 0 0 1 2; entry 0 1 0 -1; "
            + "entry 0 1 1 9; text 1 'a' = 1; at 1 0 0 = 1001; at 1 0 1 = 1007; at 1 1 0 = 1002; at 1 1 1 = 1004; map 2 0 1; "
            + "entry 2 0 0 9; text 3 '6c' = 1; at 3 0 0 = 1000; at 3 0 1 = 1090; text 3 '7c' = GREAT");
        play("group 0 1; relation 0 5 0 0; group 1 1; map 0 0 1; entry 0 0 0 9; text 1 'a' = 1; at 1 0 0 = 1009; map 2 1 0; "
            + "entry 2 0 0 9; text 3 'c' = 1; at 3 0 0 = 1004; text 3 'c.a' = 1; at 3 0 0 = 1081; text 3 'a.c' = 1; "
            + "at 3 0 0 = 1001; mapIs 3 0 = 0; mapIs 3 1 = 0");
        play("group 0 3; relation 0 1 0 0; relation 0 0 1 0; relation 0 0 0 1; map 0 0 0; entry 0 0 0 9; entry 0 2 1 -9; "
            + "text 1 'a' = 1; at 1 0 0 = 1000; at 1 2 1 = 1000; group 1 3; map 2 1 0; text 1 'c' = 1; mapIs 1 0 = 1; "
            + "text 4 'c+b' = 1; mapIs 4 1 = 0; map 3 2 0; text 3 'd' = 1; mapIs 3 2 = 1; at 3 0 0 = BAD");
    }

    // ------------------------------------------------------------------ diagrams

    /** Twice: a ring of 4 by 2 to a ring of 8 by 1 to a ring of 2; all MAPS between the rows are 0. */
    private static final String ROWS = "group 0 1; relation 0 4 0 0; group 1 1; relation 1 8 0 0; group 2 1; "
        + "relation 2 2 0 0; group 3 1; relation 3 4 0 0; group 4 1; relation 4 8 0 0; group 5 1; relation 5 2 0 0; "
        + "map 0 0 1; entry 0 0 0 2; map 1 1 2; entry 1 0 0 1; map 2 3 4; entry 2 0 0 2; map 3 4 5; entry 3 0 0 1; map 4 0 3; "
        + "map 5 1 4; map 6 2 5; fill 0 0 0 1 2 3 4 5 6;";

    private static void diagramNamed() {
        sentence("A DIAGRAM: seven MAPS, told by a SHEET of bytes from a place on, in the order f, e, f2, e2, p, q, r: f "
            + "from a GROUP A to B, e from B to C, f2 from A2 to B2, e2 from B2 to C2, p from A to A2, q from B to B2, r "
            + "from C to C2 (some of these GROUPS, or MAPS, may be the same).");
        play(ROWS + "diagram 0 0 = 1; diagram 0 1 = OUTSIDE; fill 1 0 7 7 0 1 2 3 4 5 6; diagram 1 2 = 1; diagram 1 1 = NONE; "
            + "diagram 1 3 = OUTSIDE; fill 1 0 0 1 2 3 4 5 6 9; diagram 1 0 = 1; diagram 1 1 = NONE; sheet 2 0 40; "
            + "put 2 34 1; put 2 35 2; diagram 2 34 = OUTSIDE; diagram 2 33 = NONE; put 2 33 0; put 2 34 1; put 2 35 2; "
            + "put 2 36 3; put 2 37 4; put 2 38 5; put 2 39 6; diagram 2 33 = 1; put 2 39 262; diagram 2 33 = 1");
        int[] wrong = {7, 8, -1, 127, -128};
        for (int at = 0; at < 7; at++) {
            for (int f : wrong) {
                play(ROWS + "put 0 " + at + " " + f + "; diagram 0 0 = NONE; connected 0 0 0 0 0 0 = NONE");
            }
        }
        // each end of each MAP laid to another GROUP that is the same but in number
        String[] others = {"0 1 1", "0 0 2", "1 0 2", "1 1 0", "2 1 4", "2 3 1", "3 3 5", "3 4 3", "4 2 3", "4 0 2", "5 0 4",
            "5 1 3", "6 0 5", "6 2 3"};
        for (String map : others) {
            play(ROWS + "diagram 0 0 = 1; map " + map + "; diagram 0 0 = NONE; undo; diagram 0 0 = 1");
        }
        play("map 0 0 0; fill 0 0 0 0 0 0 0 0 0; diagram 0 0 = 1; group 1 1; map 1 1 1; fill 0 0 1 1 1 1 1 1 1; "
            + "diagram 0 0 = 0; relation 1 1 0 0; diagram 0 0 = 1");
        play("group 0 1; group 1 1; relation 1 2 0 0; map 0 0 0; entry 0 0 0 2; map 1 0 1; entry 1 0 0 1; map 2 0 0; "
            + "entry 2 0 0 5; map 3 1 1; entry 3 0 0 1; fill 0 0 0 1 0 1 2 2 3; diagram 0 0 = 1; entry 2 0 0 4; "
            + "diagram 0 0 = 0; entry 3 0 0 0; diagram 0 0 = 1");
    }

    private static final String RIGHT = "It is RIGHT, if all are WELL, f and e are EXACT, f2 and e2, too, e is ONTO, f2 is "
        + "ONE TO ONE, and of each GENERATOR the IMAGE by f, then q, is ONE with that by p, then f2, that by q, then e2, "
        + "with that by e, then r.";

    /** All is as it must be, but one MAP is not WELL. */
    private static void diagramAllWell() {
        sentence(RIGHT);
        play(ROWS + "group 0 1; map 0 0 1; entry 0 0 0 2; map 4 0 3; diagram 0 0 = 1; relation 0 3 0 0; mapIs 0 2 = 0; "
            + "many 3 = 126; diagram 0 0 = 0");
        play(ROWS + "group 0 0; map 0 0 1; map 4 0 3; group 1 1; relation 1 3 0 0; group 2 1; relation 2 3 0 0; map 0 0 1; "
            + "map 1 1 2; entry 1 0 0 1; map 5 1 4; map 6 2 5; diagram 0 0 = 1; entry 5 0 0 2; many 3 = 95; diagram 0 0 = 0");
        play(ROWS + "group 0 0; map 0 0 1; group 1 0; group 2 1; relation 2 1 0 0; map 0 0 1; map 1 1 2; map 4 0 3; "
            + "map 5 1 4; map 6 2 5; diagram 0 0 = 1; entry 6 0 0 1; many 3 = 63; diagram 0 0 = 0");
        play(ROWS + "relation 1 3 0 0; diagram 0 0 = 0; undo; diagram 0 0 = 1; relation 3 1 0 0; diagram 0 0 = 0; undo; "
            + "relation 4 1 0 0; diagram 0 0 = 0; undo; entry 4 0 0 2; entry 5 0 0 2; diagram 0 0 = 1; relation 0 1 0 0; "
            + "diagram 0 0 = 0; undo; diagram 0 0 = 1");
    }

    private static void diagramExact() {
        sentence(RIGHT);
        play(ROWS + "diagram 0 0 = 1; entry 0 0 0 4; exact 0 1 = 0; diagram 0 0 = 0; entry 0 0 0 6; exact 0 1 = 1; "
            + "diagram 0 0 = 1");
        play(ROWS + "group 0 1; relation 0 8 0 0; map 0 0 1; map 4 0 3; entry 0 0 0 2; diagram 0 0 = 1; entry 0 0 0 1; "
            + "mapIs 0 2 = 1; exact 0 1 = 0; diagram 0 0 = 0");
        play(ROWS + "group 3 1; relation 3 2 0 0; map 2 3 4; map 4 0 3; entry 2 0 0 4; mapIs 2 3 = 1; exact 2 3 = 0; "
            + "diagram 0 0 = 0");
        play(ROWS + "group 2 1; relation 2 4 0 0; map 1 1 2; map 6 2 5; entry 1 0 0 2; exact 0 1 = 1; mapIs 1 4 = 0; "
            + "diagram 0 0 = 0");
        play(ROWS + "group 3 1; relation 3 8 0 0; map 2 3 4; map 4 0 3; entry 2 0 0 2; exact 2 3 = 1; mapIs 2 3 = 0; "
            + "diagram 0 0 = 0");
        play(ROWS + "group 5 1; relation 5 4 0 0; map 3 4 5; entry 3 0 0 2; map 6 2 5; exact 2 3 = 1; mapIs 3 4 = 0; "
            + "diagram 0 0 = 1");
        play(ROWS + "group 0 1; relation 0 8 0 0; map 0 0 1; map 4 0 3; entry 0 0 0 2; mapIs 0 3 = 0; diagram 0 0 = 1");
    }

    private static void diagramSquares() {
        sentence(RIGHT);
        play(ROWS + "entry 4 0 0 1; diagram 0 0 = 0; entry 4 0 0 4; diagram 0 0 = 1; entry 4 0 0 -4; diagram 0 0 = 1; "
            + "entry 4 0 0 2; diagram 0 0 = 0; entry 5 0 0 2; diagram 0 0 = 1; entry 5 0 0 -2; diagram 0 0 = 1; "
            + "entry 5 0 0 4; diagram 0 0 = 0; entry 4 0 0 0; diagram 0 0 = 1");
        play(ROWS + "entry 6 0 0 1; diagram 0 0 = 0; entry 6 0 0 2; diagram 0 0 = 1; entry 5 0 0 1; entry 4 0 0 1; "
            + "diagram 0 0 = 0; entry 6 0 0 1; diagram 0 0 = 1; entry 6 0 0 -1; diagram 0 0 = 1; entry 6 0 0 4; "
            + "diagram 0 0 = 0");
        // only the second GENERATOR of A goes two ways
        String second = ROWS + "group 0 2; relation 0 4 0 0; relation 0 0 2 0; group 1 2; relation 1 8 0 0; relation 1 0 2 0; "
            + "group 3 2; relation 3 4 0 0; relation 3 0 2 0; group 4 2; relation 4 8 0 0; relation 4 0 2 0; map 0 0 1; "
            + "entry 0 0 0 2; entry 0 1 1 1; map 1 1 2; entry 1 0 0 1; map 2 3 4; entry 2 0 0 2; entry 2 1 1 1; map 3 4 5; "
            + "entry 3 0 0 1; map 4 0 3; map 5 1 4; diagram 0 0 = 1;";
        play(second + "entry 4 1 1 1; diagram 0 0 = 0; entry 5 1 1 1; diagram 0 0 = 1; entry 4 1 1 2; diagram 0 0 = 0; "
            + "entry 5 1 1 2; diagram 0 0 = 1");
        play(second + "entry 4 1 0 2; diagram 0 0 = 0; entry 5 1 0 4; diagram 0 0 = 1; entry 4 0 1 1; diagram 0 0 = 0");
        // only the second GENERATOR of B goes two ways
        String third = ROWS + "group 1 2; relation 1 8 0 0; relation 1 0 2 0; group 2 2; relation 2 2 0 0; relation 2 0 2 0; "
            + "map 0 0 1; entry 0 0 0 2; map 1 1 2; entry 1 0 0 1; entry 1 1 1 1; map 5 1 4; map 6 2 5; diagram 0 0 = 1;";
        play(third + "entry 6 1 0 1; diagram 0 0 = 0; entry 5 1 0 4; diagram 0 0 = 0; entry 6 1 0 0; diagram 0 0 = 1");
        play(third + "entry 6 0 0 1; entry 6 1 0 1; diagram 0 0 = 0; diagram 0 0 = 0; entry 5 0 0 1; entry 5 1 0 4; "
            + "diagram 0 0 = 0; entry 6 1 0 0; entry 4 0 0 1; diagram 0 0 = 1");
        play(third + "entry 5 0 0 2; diagram 0 0 = 0; entry 4 0 0 2; diagram 0 0 = 1; entry 6 0 0 1; diagram 0 0 = 0");
    }

    private static final String CONNECTED = "CONNECTED: an ELEMENT of C of the KERNEL of r is the IMAGE by e (ONE with it) "
        + "of one of B, the IMAGE of which by q is (ONE with) that by f2 of an ELEMENT of A2: that is told, NORMAL in what p "
        + "LEAVES.";

    private static void connectedBySquares() {
        sentence(CONNECTED);
        play(ROWS + "connected 0 0 1 0 0 0 = 0; entry 4 0 0 2; entry 5 0 0 2; connected 0 0 1 0 0 0 = 1; "
            + "connected 0 0 0 0 0 0 = 0; connected 0 0 2 0 0 0 = 0; connected 0 0 -1 0 0 0 = 1; "
            + "connected 0 0 999 999 -999 0 = 1; connected 0 0 -998 0 0 0 = 0; entry 5 0 0 6; connected 0 0 1 0 0 0 = 1; "
            + "entry 5 0 0 -2; connected 0 0 1 0 0 0 = 1; entry 5 0 0 1; connected 0 0 1 0 0 0 = STATE");
        play(ROWS + "entry 5 0 0 4; connected 0 0 1 0 0 0 = 2; connected 0 0 -1 0 0 0 = 2; entry 4 0 0 4; "
            + "connected 0 0 1 0 0 0 = 2; connected 0 0 2 0 0 0 = 0");
        play(ROWS + "entry 4 0 0 1; entry 5 0 0 1; entry 6 0 0 1; connected 0 0 1 0 0 0 = NONE; connected 0 0 2 0 0 0 = 0; "
            + "connected 0 0 -3 0 0 0 = NONE");
        play("map 0 0 0; fill 0 0 0 0 0 0 0 0 0; diagram 0 0 = 1; connected 0 0 0 0 0 0 = BAD; connected 0 0 0 0 0 -1 = BAD");
    }

    /** Rows of endless GENERATORS, in which what is told has several places. */
    private static void connectedByRows() {
        sentence(CONNECTED);
        String rows = "group 0 1; group 1 2; group 2 1; group 3 1; group 4 2; relation 4 3 4 0; group 5 1; relation 5 4 0 0; "
            + "map 0 0 1; entry 0 0 0 1; map 1 1 2; entry 1 1 0 1; map 2 3 4; entry 2 0 0 1; map 3 4 5; entry 3 1 0 1; "
            + "map 4 0 3; entry 4 0 0 5; map 5 1 4; entry 5 0 0 5; entry 5 1 0 7; entry 5 1 1 2; map 6 2 5; entry 6 0 0 2; "
            + "fill 0 0 0 1 2 3 4 5 6; diagram 0 0 = 1;";
        play(rows + "connected 0 0 2 0 0 0 = 1; connected 0 0 1 0 0 0 = NONE; connected 0 0 4 0 0 0 = 2; "
            + "connected 0 0 -2 0 0 0 = 4; connected 0 0 0 0 0 0 = 0; connected 0 0 3 0 0 0 = NONE; "
            + "connected 0 0 998 999 999 0 = 4; connected 0 0 2 0 0 1 = BAD; entry 6 0 0 -2; connected 0 0 2 0 0 0 = 1; "
            + "entry 6 0 0 1; connected 0 0 2 0 0 0 = STATE");
        String wide = "group 0 1; group 1 2; group 2 1; group 3 2; group 4 3; relation 4 1 1 3; group 5 1; relation 5 3 0 0; "
            + "map 0 0 1; entry 0 0 0 1; map 1 1 2; entry 1 1 0 1; map 2 3 4; entry 2 0 0 1; entry 2 1 1 1; map 3 4 5; "
            + "entry 3 2 0 1; map 4 0 3; entry 4 0 0 4; entry 4 0 1 6; map 5 1 4; entry 5 0 0 4; entry 5 0 1 6; "
            + "entry 5 1 0 1; entry 5 1 1 2; entry 5 1 2 1; map 6 2 5; entry 6 0 0 1; fill 1 0 0 1 2 3 4 5 6; diagram 1 0 = 1;";
        play(wide + "connected 1 0 3 0 0 0 = 2; connected 1 0 3 0 0 1 = 5; connected 1 0 -3 0 0 0 = 2; "
            + "connected 1 0 -3 0 0 1 = 1; connected 1 0 6 0 0 0 = 0; connected 1 0 6 0 0 1 = 4; "
            + "connected 1 0 1 0 0 0 = NONE; connected 1 0 -1 0 0 1 = NONE; connected 1 0 3 0 0 2 = BAD; "
            + "connected 1 0 0 0 0 1 = 0");
        // C has two GENERATORS, of which only the first is of the KERNEL of r; that counts by both
        String two = "group 0 0; group 1 2; group 2 2; group 3 1; group 4 2; relation 4 0 9 0; group 5 1; relation 5 9 0 0; "
            + "map 0 0 1; map 1 1 2; entry 1 0 1 1; entry 1 1 0 1; map 2 3 4; entry 2 0 0 1; map 3 4 5; entry 3 1 0 1; "
            + "map 4 0 3; map 5 1 4; entry 5 0 0 1; entry 5 0 1 3; entry 5 1 0 4; map 6 2 5; entry 6 1 0 3; "
            + "fill 2 0 0 1 2 3 4 5 6; diagram 2 0 = 1;";
        play(two + "connected 2 0 1 0 0 0 = 4; connected 2 0 0 3 0 0 = 3; connected 2 0 -2 3 0 0 = -5; "
            + "connected 2 0 0 1 0 0 = NONE; connected 2 0 5 -2 0 0 = NONE; connected 2 0 999 999 999 0 = 4995; "
            + "connected 2 0 0 999 0 0 = 999; connected 2 0 0 0 999 0 = 0");
    }

    // ------------------------------------------------------------------ moves, runs, spans

    private static final String MOVES = "MOVES, 12 at most, in order: 0 the number at place v (0 to 2) is 1 more, if there "
        + "is such a place in the GROUP; 1 the ELEMENT v times (-9 to 9); "
        + "2 it becomes its IMAGE by MAP v, as the MAP was when the MOVE came; 3 it becomes NORMAL.";

    private static void moves() {
        sentence("A RUN: from an ELEMENT of a GROUP all MOVES, one by one.");
        play("group 0 1; run 0 7 0 0 0 = 7; move 0 0; run 0 7 0 0 0 = 8; run 0 7 0 0 0 = 8; move 1 2; run 0 7 0 0 0 = 16; "
            + "move 0 0; run 0 7 0 0 0 = 17; stop 1; run 0 7 0 0 0 = 9; many 4 = 2");
        sentence(MOVES);
        play("group 0 1; move 1 2 = 1; move 0 0 = 2; move 1 3 = 3; move 0 0 = 4; move 1 -1 = 5; move 0 0 = 6; move 1 1 = 7; "
            + "move 1 2 = 8; move 0 0 = 9; move 0 0 = 10; move 1 9 = 11; move 0 0 = 12; move 0 0 = FULL; move 3 0 = FULL; "
            + "many 4 = 12; run 0 1 0 0 0 = -143; run 0 -1 0 0 0 = 73; undo; move 1 0 = 12; run 0 1 0 0 0 = 0");
        play("group 0 1; group 1 2; group 2 3; move 0 0; move 0 1; move 0 2; run 0 5 5 5 0 = 6; run 0 5 5 5 1 = 0; "
            + "run 0 5 5 5 2 = 0; run 1 5 5 5 0 = 6; run 1 5 5 5 1 = 6; run 1 5 5 5 2 = 0; run 2 5 5 5 0 = 6; "
            + "run 2 5 5 5 1 = 6; run 2 5 5 5 2 = 6; run 3 5 5 5 0 = 0; run 3 5 5 5 3 = 3; move 0 1; run 2 5 5 5 1 = 7; "
            + "run 2 5 5 5 0 = 6");
        play("group 0 3; move 1 -9; run 0 111 -111 1 0 = -999; run 0 111 -111 1 1 = 999; run 0 111 -111 1 2 = -9; move 1 9; "
            + "run 0 1 2 3 2 = -243; move 1 0; run 0 999 999 999 1 = 0");
        play("group 0 1; map 0 0 0; entry 0 0 0 3; move 2 0; entry 0 0 0 4; move 2 0; map 0 0 0; run 0 5 0 0 0 = 60; "
            + "entry 0 0 0 9; run 0 5 0 0 0 = 60; undo; undo; run 0 5 0 0 0 = 60; at 0 0 0 = 1004; move 2 0; "
            + "run 0 5 0 0 0 = 240; text 0 'a.a' = 1; run 0 5 0 0 0 = 240; move 2 0; run 0 5 0 0 0 = 3840");
        play("group 0 2; relation 0 4 1 0; map 0 0 0; entry 0 0 1 1; move 2 0; run 0 9 5 0 0 = 0; run 0 9 5 0 1 = 9; "
            + "mapIs 0 2 = 0; group 0 2; run 0 9 5 0 1 = 9; many 4 = 1");
        play("group 0 2; relation 0 4 1 0; move 3 0; run 0 9 5 0 0 = 1; run 0 9 5 0 1 = 3; move 0 0; move 0 0; move 0 0; "
            + "run 0 9 5 0 0 = 4; move 3 -1; run 0 9 5 0 0 = 0; run 0 9 5 0 1 = 2");
    }

    /** By MOVES 800 becomes 1000000000: 5 seven times, 8, 2. */
    private static final String BILLION = "move 1 5; move 1 5; move 1 5; move 1 5; move 1 5; move 1 5; move 1 5; move 1 8; "
        + "move 1 2;";

    private static void runs() {
        sentence("Each number must be from -1000000000 to 1000000000 behind each MOVE.");
        String[] elements = {"800 0 0", "0 800 0", "0 0 800", "-800 0 0", "0 -800 0", "0 0 -800"};
        for (int i = 0; i < 6; i++) {
            int k = i % 3;
            String run = "run 0 " + elements[i] + " ";
            Calls calls = play("group 0 3;" + BILLION + run + k + " = "
                + "" + (i < 3 ? "1000000000" : "-1000000000") + ";" + run + (k + 1) % 3 + " = 0");
            calls.then("move 0 " + k + ";" + run + k + " = " + (i < 3 ? "GREAT" : "-999999999"));
            calls.then("move 1 0;" + run + k + " = " + (i < 3 ? "GREAT" : "0") + ";" + run + "3 = " + (i < 3 ? "GREAT" : "0"));
        }
        play("group 0 3;" + BILLION + "move 1 -1; run 0 800 -800 0 0 = -1000000000; run 0 800 -800 0 1 = 1000000000; "
            + "move 1 2; run 0 800 0 0 0 = GREAT; run 0 -800 0 0 0 = GREAT; run 0 0 0 0 0 = 0; undo; move 0 1; "
            + "run 0 800 0 0 1 = 1; run 0 0 -800 0 1 = GREAT");
        play("group 0 2;" + BILLION + "relation 0 1 1 0; run 0 800 0 0 0 = 1000000000; move 3 0; "
            + "run 0 800 0 0 1 = -1000000000; run 0 -800 0 0 1 = 1000000000; run 0 800 800 0 1 = 0; run 0 800 -1 0 1 = GREAT; "
            + "run 0 -800 1 0 1 = GREAT; relation 0 1 2 0; run 0 800 -1 0 1 = 0; group 0 2; relation 0 1 2 0; "
            + "run 0 800 0 0 0 = GREAT");
        play("group 0 2;" + BILLION + "map 0 0 0; entry 0 0 0 1; entry 0 1 0 1; move 2 0; run 0 800 0 0 0 = 1000000000; "
            + "run 0 0 800 0 0 = 1000000000; run 0 800 -800 0 0 = 0; run 0 800 1 0 0 = GREAT; run 0 -800 0 0 0 = -1000000000; "
            + "run 0 -800 -1 0 0 = GREAT; run 0 799 1 0 0 = 1000000000");
        play("run 0 999 999 999 0 = 0; run 0 0 0 0 3 = 0; group 4 1; run 4 999 1 1 0 = 999; run 4 -999 1 1 0 = -999; "
            + "run 4 -999 1 1 1 = 0; run 4 -999 1 1 3 = 4");
    }

    private static void runsBreakOff() {
        sentence("(GROUPS are as they are in the RUN; "
            + "if the MAP of a MOVE was not from the GROUP that the ELEMENT is of then, or one of the two GROUPS has other "
            + "GENERATORS than then, it breaks off.)");
        play("group 0 1; group 1 1; move 3 0; run 0 100 0 0 0 = 100; relation 0 7 0 0; run 0 100 0 0 0 = 2; group 0 2; "
            + "run 0 100 9 0 0 = 100; run 0 100 9 0 1 = 9");
        String maps = "group 0 1; group 1 2; group 2 1; map 0 0 1; entry 0 0 1 2; map 1 1 2; entry 1 1 0 3; move 2 0; "
            + "move 2 1;";
        play(maps + "run 0 5 0 0 0 = 30; run 0 5 0 0 3 = 2; run 1 5 0 0 0 = STATE; run 2 5 0 0 0 = STATE; "
            + "run 3 0 0 0 0 = STATE; stop 2; move 2 1; run 1 1 1 0 0 = 3; run 0 5 0 0 0 = STATE; move 2 1; "
            + "run 1 1 1 0 0 = STATE; run 1 1 1 0 3 = STATE");
        for (int g = 0; g < 3; g++) {
            for (int n = 0; n <= 3; n++) {
                boolean isAsThen = n == (g == 1 ? 2 : 1);
                play(maps + "group " + g + " " + n + "; run 0 5 0 0 0 = " + (isAsThen ? "30" : "STATE") + "; "
                    + "many 2 = " + (g == 1 ? 0 : 1) + "; undo; run 0 5 0 0 0 = 30");
            }
        }
        play(maps + "group 3 3; run 0 5 0 0 0 = 30; relation 0 5 0 0; relation 2 7 0 0; run 0 5 0 0 0 = 30; move 3 0; "
            + "run 0 5 0 0 0 = 2; map 0 1 0; map 1 0 0; run 0 5 0 0 0 = 2");
        play("map 0 0 0; move 2 0; run 0 0 0 0 0 = 0; run 0 5 5 5 3 = 0; run 1 0 0 0 0 = STATE; group 0 1; "
            + "run 0 0 0 0 0 = STATE; group 0 0; run 0 0 0 0 3 = 0");
        play("group 0 1; map 0 0 0; entry 0 0 0 9; move 1 9; move 2 0; move 1 9; move 1 9; move 1 9; move 1 9; move 1 9; "
            + "move 2 0; run 0 999 0 0 0 = GREAT; map 1 1 1; move 2 1; run 0 999 0 0 0 = GREAT; run 0 23 0 0 0 = STATE; undo; "
            + "run 0 23 0 0 0 = 990074583; run 0 -23 0 0 0 = -990074583; run 0 24 0 0 0 = GREAT; run 1 999 0 0 0 = STATE");
    }

    private static void spans() {
        sentence("SPAN: of some ELEMENTS: how many ELEMENTS, no two of them ONE, are sums of them, each as often as one "
            + "likes (none, too; also taken away); 0: endless many.");
        play("group 0 1; fill 0 1 4 0 0 -6 0 0 0 50 50; span 0 0 0 0 = 1; span 0 0 6 1 = 1; span 0 0 0 1 = 0; "
            + "span 0 0 0 2 = 0; relation 0 9 0 0; span 0 0 0 0 = 1; span 0 0 0 1 = 9; span 0 0 3 1 = 3; span 0 0 3 2 = 3; "
            + "span 0 0 0 3 = 9; span 0 0 6 1 = 1; span 3 0 0 3 = 1; relation 0 1 0 0; span 0 0 0 3 = 1");
        play("group 0 2; relation 0 6 4 0; fill 0 1 3 2 0 6 4 0 -9 -6 7 1 0 0; span 0 0 0 1 = 2; span 0 0 3 1 = 1; "
            + "span 0 0 6 1 = 2; span 0 0 0 3 = 2; span 0 0 9 1 = 0; span 0 0 0 4 = 0; relation 0 0 5 0; span 0 0 9 1 = 30; "
            + "span 0 0 0 1 = 2; span 0 0 0 4 = 30");
        play("group 0 3; relation 0 2 0 0; relation 0 0 3 0; relation 0 0 0 5; "
            + "fill 0 1 1 1 1 99 -99 99 1 0 0 0 1 0 0 0 1 2 0 0 0 3 0 0 0 5 -1 -1 -1; span 0 0 0 1 = 30; span 0 0 3 1 = 10; "
            + "span 0 0 6 1 = 2; span 0 0 6 2 = 6; span 0 0 9 1 = 3; span 0 0 12 1 = 5; span 0 0 6 3 = 30; span 0 0 15 3 = 1; "
            + "span 0 0 0 9 = 30; span 0 0 24 1 = 30; span 0 0 24 2 = OUTSIDE; span 0 0 1 1 = 30; span 0 0 2 1 = 10");
        play("group 0 2; relation 0 0 7 0; fill 0 1 0 2 0 1 0 0; span 0 0 0 1 = 7; span 0 0 0 2 = 0; span 0 0 3 1 = 0; "
            + "relation 0 4 0 0; span 0 0 3 1 = 4; span 0 0 0 2 = 28; fill 0 1 99 99 99 -99 -99 -99; span 0 0 0 1 = 28; "
            + "span 0 0 0 2 = 28; span 3 0 0 2 = 1");
    }

    // ------------------------------------------------------------------ the host

    private static void sheets() {
        sentence("SHEETS 0 to 3 are rows of bytes (sort 0), ints (1), longs (2), 40 at most, or missing (at first).");
        for (int sheet = 0; sheet < 4; sheet++) {
            for (int sort = 0; sort < 3; sort++) {
                String at = sheet + " " + sort + " ";
                play("item " + at + "0 = MISSING; put " + sheet + " 0 0 = MISSING; sheet " + at + "40 = 1; "
                    + "item " + at + "39 = 0; item " + at + "40 = OUTSIDE; put " + sheet + " 39 -7 = 1; "
                    + "item " + at + "39 = -7; sheet " + at + "41 = BAD; item " + at + "39 = -7; "
                    + "sheet " + sheet + " -1 40 = 1; item " + at + "39 = MISSING; sheet " + at + "0 = 1; "
                    + "item " + at + "0 = OUTSIDE; sheet " + at + "1 = 1; item " + at + "0 = 0; item " + at + "1 = OUTSIDE");
            }
        }
        play("sheet 4 0 1 = BAD; sheet -1 0 1 = BAD; sheet 0 3 1 = BAD; sheet 0 0 3; sheet 1 1 3; put 0 1 5; item 1 1 1 = 0; "
            + "item 0 0 1 = 5");
    }

    private static void shelves() {
        sentence("SHELVES 0 to 3 hold an ELEMENT of a GROUP (of that number; "
            + "three numbers, those that don't count as it is laid are 0), a SHEET's row, or nothing (at first).");
        for (int shelf = 0; shelf < 4; shelf++) {
            Calls.playWith(shelf, "lies # 0 = MISSING; taken # 0 = MISSING; taken # 10 = MISSING; rest # = MISSING; "
                + "group 5 1; lay # 5 7 8 9 = 1; lies # 0 = 7; lies # 1 = 0; lies # 2 = 0; lies # 3 = 5; taken # 5 = 1; "
                + "group 5 3; lies # 1 = 0; lies # 2 = 0; lay # 5 7 8 9; lies # 1 = 8; lies # 2 = 9; group 5 0; lies # 2 = 9; "
                + "taken # 5 = 1; sheet 0 2 7; hold # 0 = 1; taken # 12 = 7; taken # 5 = UNLIKE; lies # 0 = UNLIKE; "
                + "lay # 0 7 8 9; lies # 0 = 0; lies # 2 = 0; hold # -1 = 1; lies # 0 = MISSING");
        }
        play("lay 4 0 0 0 0 = BAD; hold 4 0 = BAD; lay 0 0 0 0 0; lies 1 0 = MISSING; lies 0 0 = 0");
    }
}
