import java.io.IOException;

/** The sentences of 'Promise 1' to 'Promise 39', each with the edges that it names; RefusalTest has all refusals. */
public final class EdgeTest {
    public static void main(String[] args) throws IOException {
        made();
        relations();
        numbersOfGroups();
        elementsOfGroups();
        twoGroups();
        span();
        tables();
        mapIs();
        images();
        parts();
        whence();
        exact();
        feed();
        text();
        diagrams();
        moves();
        run();
        undo();
        sheet();
        putAndItem();
        layAndHold();
        add();
        addAtTheEnds();
        rest();
        liesAndTaken();
        many();
        manyWell();
        keep();
        again();
        Calls.end();
    }

    private static Calls play(String line) {
        return Calls.play(line);
    }

    private static void sentence(String words) {
        Calls.sentence(words);
    }

    // ------------------------------------------------------------------ groups

    private static void made() {
        sentence("All GROUPS have no GENERATORS, there are no MAPS, MOVES; nothing is kept.");
        for (int g = 0; g < 6; g++) {
            Calls.playWith(g, "groupIs # 0 = 0; groupIs # 1 = 0; groupIs # 2 = 0; groupIs # 3 = 1; ring # 0 = BAD; "
                + "run # 9 9 9 0 = 0; run # 9 9 9 3 = #");
        }
        play("many 0 = 0; many 1 = 0; many 2 = 0; many 3 = 0; many 4 = 0; many 5 = 0; many 6 = 0; again = NONE; undo = NONE; "
            + "move 2 0 = BAD; text 0 = -100; exact 0 0 = BAD");
        Calls first = play("group 0 3; map 0 0 0; move 0 0; keep; tape 'a'; sheet 0 0 1; lay 0 0 1 2 3");
        play("groupIs 0 0 = 0; many 2 = 0; many 4 = 0; many 6 = 0; again = NONE; item 0 0 0 = MISSING; lies 0 0 = MISSING");
        first.then("groupIs 0 0 = 3; many 2 = 1; many 4 = 1; many 6 = 1; again = 1; item 0 0 0 = 0; lies 0 2 = 3");
        sentence("A GROUP becomes one of n GENERATORS without RELATIONS; "
            + "MAPS from it, to it are none then: how many GENERATORS it had. BAD.");
        play("group 5 3 = 0; group 5 2 = 3; group 5 1 = 2; group 5 0 = 1; group 5 0 = 0; group 5 3 = 0; relation 5 1 2 3; "
            + "group 5 3 = 3; groupIs 5 1 = 0; step 5 0 = 0; groupIs 0 0 = 0");
        play("group 0 1; group 1 1; map 0 0 1; map 1 1 0; map 2 0 0; map 3 1 1; map 4 2 0; map 5 0 2; map 6 2 2; map 7 1 2; "
            + "group 0 1 = 1; many 2 = 3; mapIs 0 0 = BAD; mapIs 1 0 = BAD; mapIs 2 0 = BAD; mapIs 3 0 = 1; mapIs 4 0 = BAD; "
            + "mapIs 5 0 = BAD; mapIs 6 0 = 2; mapIs 7 1 = 2; map 0 0 0 = 1; at 0 0 0 = 1000; group 2 0 = 0; many 2 = 2");
        play("group 0 1; map 0 0 0; entry 0 0 0 5; group 0 1; at 0 0 0 = BAD; map 0 0 0; at 0 0 0 = 1000; undo; undo; "
            + "at 0 0 0 = 1005");
    }

    private static void relations() {
        sentence("A RELATION comes (a, b, c: -9 to 9, also those that do not count): how many there are. BAD; FULL.");
        for (int n = 0; n <= 3; n++) {
            Calls.playWith(n, "group 0 # = 0; relation 0 9 9 9 = 1; relation 0 -9 -9 -9 = 2; relation 0 10 0 0 = BAD; "
                + "relation 0 0 10 0 = BAD; relation 0 0 0 10 = BAD; relation 0 -10 0 0 = BAD; relation 0 0 -10 0 = BAD; "
                + "relation 0 0 0 -10 = BAD; groupIs 0 1 = 2; relation 0 9 -9 9 = 3; relation 0 0 0 0 = 4; "
                + "relation 0 0 0 0 = FULL; relation 0 9 9 9 = FULL; groupIs 0 1 = 4; relation 0 0 0 10 = BAD; "
                + "relation 1 0 0 0 = 1; undo; undo; groupIs 0 1 = 3; relation 0 1 1 1 = 4; group 0 1; relation 0 8 9 9 = 1; "
                + "step 0 0 = 8");
        }
    }

    private static void numbersOfGroups() {
        sentence("Of a GROUP: what = 0 GENERATORS, 1 RELATIONS, 2 how many OWN RINGS, 3 how many ELEMENTS, no two of them "
            + "ONE (0: endless). BAD.");
        play("groupIs 0 3 = 1; group 0 1; groupIs 0 0 = 1; groupIs 0 1 = 0; groupIs 0 2 = 1; groupIs 0 3 = 0; "
            + "relation 0 0 0 0; groupIs 0 1 = 1; groupIs 0 3 = 0; relation 0 9 0 0; groupIs 0 1 = 2; groupIs 0 2 = 1; "
            + "groupIs 0 3 = 9; relation 0 8 0 0; groupIs 0 2 = 0; groupIs 0 3 = 1; groupIs 0 4 = BAD; groupIs 0 -1 = BAD; "
            + "groupIs 6 0 = BAD");
        play("group 5 3; relation 5 9 0 0; relation 5 0 9 0; groupIs 5 2 = 3; groupIs 5 3 = 0; relation 5 0 0 9; "
            + "groupIs 5 2 = 3; groupIs 5 3 = 729; relation 5 1 1 1; groupIs 5 2 = 2; groupIs 5 3 = 81");
        play("group 0 3; relation 0 9 9 -9; relation 0 9 -9 -9; relation 0 -9 -9 -9; groupIs 0 3 = 2916; group 1 3; "
            + "relation 1 9 7 -9; relation 1 -9 9 9; relation 1 9 9 8; groupIs 1 3 = 2448; groupIs 1 2 = 1");
        sentence("RING k (0 to n - 1). BAD.");
        play("ring 0 0 = BAD; group 0 1; ring 0 0 = 0; ring 0 1 = BAD; group 0 3; ring 0 2 = 0; ring 0 3 = BAD; "
            + "ring 0 -1 = BAD; relation 0 6 0 0; ring 0 0 = 6; ring 0 1 = 0; relation 0 0 9 0; ring 0 0 = 3; ring 0 1 = 18; "
            + "ring 0 2 = 0; ring 6 0 = BAD; ring -1 0 = BAD");
        play("group 1 3; relation 1 9 7 -9; relation 1 -9 9 9; relation 1 9 9 8; ring 1 0 = 1; ring 1 1 = 1; ring 1 2 = 2448; "
            + "ring 1 3 = BAD");
        sentence("STEP k. BAD.");
        play("step 0 0 = BAD; group 0 2; step 0 1 = 0; step 0 2 = BAD; step 0 -1 = BAD; relation 0 6 1 0; step 0 0 = 6; "
            + "step 0 1 = 0; relation 0 9 1 0; step 0 0 = 3; step 0 1 = 1; step 6 0 = BAD");
        play("group 0 3; relation 0 9 9 8; relation 0 9 -9 9; relation 0 -9 9 8; step 0 0 = 9; step 0 1 = 18; step 0 2 = 17");
    }

    private static void elementsOfGroups() {
        sentence("The number at place k (0 to n - 1) of NORMAL of an ELEMENT. Refused as told: BAD.");
        play("normal 0 0 0 0 0 = BAD; group 0 1; normal 0 -999 0 0 0 = -999; normal 0 5 6 7 1 = BAD; normal 0 5 6 7 -1 = BAD; "
            + "group 0 3; normal 0 -999 999 -999 0 = -999; normal 0 -999 999 -999 1 = 999; normal 0 -999 999 -999 2 = -999; "
            + "normal 0 5 6 7 3 = BAD; relation 0 1 9 -9; normal 0 999 999 -999 0 = 0; normal 0 999 999 -999 1 = -7992; "
            + "normal 0 999 999 -999 2 = 7992; normal 0 -999 999 -999 1 = 9990; normal 0 -999 999 -999 2 = -9990; "
            + "normal 6 0 0 0 0 = BAD");
        sentence("ORDER of an ELEMENT. BAD.");
        play("order 0 9 9 9 = 1; group 0 3; order 0 0 0 0 = 1; order 0 0 0 1 = 0; relation 0 9 9 8; relation 0 9 -9 9; "
            + "relation 0 -9 9 8; order 0 1 0 0 = 18; order 0 9 0 0 = 2; order 0 0 0 1 = 17; order 0 0 1 0 = 306; "
            + "order 0 9 9 8 = 1; order 0 18 0 0 = 1; order 6 0 0 0 = BAD");
    }

    private static void twoGroups() {
        sentence("1, if two GROUPS are SAME, else 0. BAD.");
        play("same 0 5 = 1; same 0 6 = BAD; same 6 0 = BAD; same -1 0 = BAD; same 0 -1 = BAD; group 0 2; same 0 5 = 0; "
            + "same 0 0 = 1; group 5 3; same 0 5 = 0; same 5 0 = 0; relation 5 9 0 1; same 0 5 = 1; relation 5 0 2 0; "
            + "same 0 5 = 0; relation 0 0 2 0; same 0 5 = 1");
        sentence("OF TWO GROUPS: what = 0 HOM, 1 TENSOR, 2 TORSION, 3 EXTENSION, 4 SUM: the k-th (from 0) of its OWN RINGS; "
            + "how many there are (k -1; a what that is none is refused, too). BAD; NONE: there are not so many.");
        String groups = "group 0 1; relation 0 4 0 0; group 1 1;";
        // a ring of 4 and an endless one tell the five apart, by both orders
        play(groups + "ofTwo 0 0 1 -1 = 0; ofTwo 0 1 0 -1 = 1; ofTwo 1 0 1 -1 = 1; ofTwo 2 0 1 -1 = 0; ofTwo 2 1 0 -1 = 0; "
            + "ofTwo 3 0 1 -1 = 1; ofTwo 3 1 0 -1 = 0; ofTwo 4 0 1 -1 = 2; ofTwo 0 1 0 0 = 4; ofTwo 1 1 0 0 = 4; "
            + "ofTwo 3 0 1 0 = 4; ofTwo 4 0 1 0 = 4; ofTwo 4 0 1 1 = 0; ofTwo 4 0 1 2 = NONE; ofTwo 0 0 1 0 = NONE; "
            + "ofTwo 2 0 0 0 = 4; ofTwo 2 0 0 1 = NONE; ofTwo 5 0 1 -1 = BAD; ofTwo -1 0 1 -1 = BAD; ofTwo 5 0 1 0 = BAD; "
            + "ofTwo 4 0 1 -2 = BAD; ofTwo 4 0 1 MAX = NONE; ofTwo 4 6 1 -1 = BAD; ofTwo 4 0 6 -1 = BAD");
        play("group 0 3; group 1 3; ofTwo 0 0 1 8 = 0; ofTwo 0 0 1 9 = NONE; ofTwo 1 0 1 8 = 0; ofTwo 4 0 1 5 = 0; "
            + "ofTwo 4 0 1 6 = NONE; relation 0 2 0 0; relation 1 0 3 0; ofTwo 1 0 1 -1 = 6; ofTwo 1 0 1 1 = 6; "
            + "ofTwo 1 0 1 2 = 0; ofTwo 1 0 1 5 = 0; ofTwo 1 0 1 6 = NONE");
    }

    private static void span() {
        sentence("SPAN of ELEMENTS of a GROUP, told by a SHEET of ints from place i on, n of them (0 to 9), three numbers "
            + "each (-99 to 99, also those that the GROUP has not, which count nothing).");
        play("sheet 3 1 40; span 5 3 0 0 = 1; span 5 3 0 9 = 1; span 5 3 13 9 = 1; span 5 3 14 9 = OUTSIDE; "
            + "span 5 3 37 1 = 1; span 5 3 38 1 = OUTSIDE; span 5 3 -1 1 = OUTSIDE; span 5 3 0 10 = BAD; span 5 3 0 -1 = BAD; "
            + "span 5 3 41 0 = 1; span 5 3 -1 0 = 1; span 5 3 MAX 0 = 1; put 3 39 100; span 5 3 37 1 = BAD; "
            + "span 5 3 36 1 = 1; span 5 3 13 9 = BAD; put 3 39 99; span 5 3 37 1 = 1; put 3 39 -99; span 5 3 37 1 = 1; "
            + "put 3 39 -100; span 5 3 37 1 = BAD; span 5 3 40 0 = 1; span 5 3 39 0 = 1");
        play("group 0 1; relation 0 8 0 0; fill 0 1 99 98 97; span 0 0 0 1 = 8; fill 0 1 2 1 1; span 0 0 0 1 = 4; "
            + "fill 0 1 0 99 -99; span 0 0 0 1 = 1; fill 0 1 0 100 0; span 0 0 0 1 = BAD; fill 0 1 0 0 -100; "
            + "span 0 0 0 1 = BAD; fill 0 1 -100 0 0; span 0 0 0 1 = BAD; group 0 2; relation 0 8 0 0; fill 0 1 2 0 5; "
            + "span 0 0 0 1 = 4; fill 0 1 2 1 5; span 0 0 0 1 = 0; sheet 0 1 2; span 0 0 0 1 = OUTSIDE; span 0 0 0 0 = 1");
        play("group 0 2; relation 0 9 0 0; relation 0 0 9 0; fill 0 1 3 0 0 6 0 0 0 3 0 3 3 0 0 6 0 6 6 0 3 6 0 6 3 0 9 1 0; "
            + "span 0 0 0 1 = 3; span 0 0 0 2 = 3; span 0 0 0 3 = 9; span 0 0 0 8 = 9; span 0 0 0 9 = 27; span 0 0 24 1 = 9; "
            + "span 0 0 9 1 = 3; span 0 0 21 2 = 27; span 0 0 18 2 = 3; span 0 0 18 3 = 27");
    }

    // ------------------------------------------------------------------ maps

    private static void tables() {
        sentence("A MAP becomes that from g to h with a table of 0: 1. BAD.");
        play("group 0 2; group 1 3; map 7 0 1 = 1; mapIs 7 0 = 0; mapIs 7 1 = 1; at 7 1 2 = 1000; entry 7 1 2 9; "
            + "map 7 0 1 = 1; at 7 1 2 = 1000; map 7 1 0 = 1; mapIs 7 0 = 1; at 7 2 1 = 1000; at 7 1 2 = BAD; "
            + "map 8 0 1 = BAD; map 0 6 1 = BAD; map 0 0 6 = BAD; map 0 -1 0 = BAD; many 2 = 1; map 0 5 5 = 1; mapIs 0 2 = 1; "
            + "many 2 = 2");
        play("group 0 1; map 0 0 0; entry 0 0 0 7; map 0 0 0 = 1; at 0 0 0 = 1000; entry 0 0 0 3; text 0 'a.a' = 1; "
            + "at 0 0 0 = 1009; map 0 0 0; at 0 0 0 = 1000");
        sentence("The number of its table for GENERATOR i of the one, GENERATOR j of the other becomes v (-9 to 9): 1000, "
            + "and what it was. BAD: also no MAP.");
        play("group 0 2; group 1 3; entry 0 0 0 1 = BAD; map 0 0 1; entry 0 0 0 9 = 1000; entry 0 0 0 -9 = 1009; "
            + "entry 0 0 0 0 = 991; entry 0 1 2 5 = 1000; entry 0 2 1 5 = BAD; entry 0 0 3 5 = BAD; entry 0 -1 0 5 = BAD; "
            + "entry 0 0 -1 5 = BAD; entry 0 0 0 10 = BAD; entry 0 0 0 -10 = BAD; at 0 0 0 = 1000; at 0 1 2 = 1005; "
            + "at 0 0 2 = 1000; at 0 1 0 = 1000; at 0 1 1 = 1000; at 0 0 1 = 1000; entry 0 0 1 6 = 1000; "
            + "entry 0 0 2 7 = 1000; entry 0 1 0 8 = 1000; entry 0 1 1 -8 = 1000; at 0 0 0 = 1000; at 0 0 1 = 1006; "
            + "at 0 0 2 = 1007; at 0 1 0 = 1008; at 0 1 1 = 992; at 0 1 2 = 1005; map 1 5 0; entry 1 0 0 1 = BAD; map 2 0 5; "
            + "entry 2 0 0 1 = BAD");
        play("group 0 1; map 0 0 0; entry 0 0 0 9; text 0 '9a+9a-9a+9a+9a-9a-9a' = 1; entry 0 0 0 1 = 1081; "
            + "text 0 '9a+9a' = 1; entry 0 0 0 9 = 1018; map 1 0 0; text 2 '-9a-9a' = GREAT; text 2 '-9a-a-a' = 1; "
            + "entry 2 0 0 9 = 901; at 2 0 0 = 1009");
        sentence("1000, and this number. BAD: also no MAP.");
        play("at 0 0 0 = BAD; group 0 1; map 0 0 0; at 0 0 0 = 1000; entry 0 0 0 -9; at 0 0 0 = 991; at 0 0 1 = BAD; "
            + "at 0 1 0 = BAD; at 0 -1 0 = BAD; at 0 0 -1 = BAD; at 8 0 0 = BAD; at -1 0 0 = BAD; group 0 1; at 0 0 0 = BAD; "
            + "map 1 0 5; at 1 0 0 = BAD; map 2 5 0; at 2 0 0 = BAD; map 3 5 5; at 3 0 0 = BAD");
    }

    private static void mapIs() {
        sentence("Of a MAP: what = 0 the GROUP that it is from, 1 to, 2 1 if it is WELL, 3 1 if it is ONE TO ONE, 4 1 if it "
            + "is ONTO (else 0). BAD: no MAP, what; STATE (3, 4): it is not WELL.");
        play("mapIs 0 0 = BAD; mapIs 0 9 = BAD; map 0 3 5; mapIs 0 0 = 3; mapIs 0 1 = 5; mapIs 0 2 = 1; mapIs 0 3 = 1; "
            + "mapIs 0 4 = 1; mapIs 0 5 = BAD; mapIs 0 -1 = BAD; mapIs 8 0 = BAD; mapIs -1 0 = BAD");
        play("group 0 1; relation 0 2 0 0; group 1 1; relation 1 4 0 0; map 0 0 1; entry 0 0 0 1; mapIs 0 0 = 0; "
            + "mapIs 0 1 = 1; mapIs 0 2 = 0; mapIs 0 3 = STATE; mapIs 0 4 = STATE; mapIs 0 5 = BAD; entry 0 0 0 2; "
            + "mapIs 0 2 = 1; mapIs 0 3 = 1; mapIs 0 4 = 0; map 1 1 0; entry 1 0 0 1; mapIs 1 2 = 1; mapIs 1 3 = 0; "
            + "mapIs 1 4 = 1; entry 1 0 0 2; mapIs 1 3 = 0; mapIs 1 4 = 0; map 2 1 1; entry 2 0 0 -1; mapIs 2 3 = 1; "
            + "mapIs 2 4 = 1");
    }

    private static void images() {
        sentence("The number at place k of NORMAL of the IMAGE of an ELEMENT. Refused as told: BAD: no MAP, a, b, c, k; "
            + "STATE: it is not WELL.");
        play("image 0 0 0 0 0 = BAD; group 0 1; group 1 3; relation 1 5 0 1; map 0 0 1; entry 0 0 0 7; entry 0 0 1 -9; "
            + "entry 0 0 2 9; image 0 1 0 0 0 = 2; image 0 1 0 0 1 = -9; image 0 1 0 0 2 = 8; image 0 1 0 0 3 = BAD; "
            + "image 0 1 0 0 -1 = BAD; image 0 999 5 5 0 = 3; image 0 999 5 5 1 = -8991; image 0 999 5 5 2 = 7593; "
            + "image 0 -999 5 5 0 = 2; image 0 -999 5 5 2 = -7592; image 0 1000 0 0 0 = BAD; image 0 0 1000 0 0 = BAD; "
            + "image 0 0 0 -1000 0 = BAD; image 0 0 999 999 2 = 0; relation 0 9 0 0; image 0 1 0 0 0 = STATE; "
            + "image 0 0 0 0 0 = STATE; image 0 1000 0 0 0 = BAD; image 0 1 0 0 3 = BAD; map 1 1 5; image 1 0 0 0 0 = BAD");
        play("group 0 3; group 1 1; relation 1 8 0 0; map 0 0 1; entry 0 0 0 1; entry 0 1 0 2; entry 0 2 0 4; "
            + "image 0 1 0 0 0 = 1; image 0 0 1 0 0 = 2; image 0 0 0 1 0 = 4; image 0 1 1 1 0 = 7; image 0 2 1 1 0 = 0; "
            + "image 0 0 0 -1 0 = 4; image 0 -1 0 0 0 = 7; image 0 0 0 2 0 = 0; image 0 0 0 0 1 = BAD");
    }

    private static void parts() {
        sentence("OWN RINGS of the KERNEL (what 0), of what it REACHES (1), LEAVES (2): the k-th; how many (k -1; "
            + "a what that is none is refused, too). BAD: no MAP, what, k; STATE: it is not WELL; "
            + "NONE: there are not so many.");
        play("part 0 0 -1 = BAD; group 0 1; relation 0 8 0 0; group 1 1; relation 1 9 0 0; relation 1 9 0 0; group 2 1; "
            + "relation 2 6 0 0; map 0 0 2; entry 0 0 0 3; part 0 0 -1 = 1; part 0 0 0 = 4; part 0 0 1 = NONE; "
            + "part 0 1 -1 = 1; part 0 1 0 = 2; part 0 1 1 = NONE; part 0 2 -1 = 1; part 0 2 0 = 3; part 0 2 1 = NONE; "
            + "part 0 2 MAX = NONE; part 0 3 -1 = BAD; part 0 3 0 = BAD; part 0 -1 -1 = BAD; part 0 0 -2 = BAD; map 1 0 1; "
            + "part 1 0 0 = 8; part 1 1 -1 = 0; part 1 1 0 = NONE; part 1 2 0 = 9; entry 1 0 0 1; part 1 0 -1 = STATE; "
            + "part 1 2 99 = STATE; part 1 3 0 = BAD; part 1 0 -2 = BAD");
        play("group 0 3; map 0 0 0; part 0 0 -1 = 3; part 0 0 2 = 0; part 0 0 3 = NONE; part 0 1 -1 = 0; part 0 2 -1 = 3; "
            + "part 0 2 2 = 0; entry 0 0 0 1; entry 0 1 1 2; entry 0 2 2 6; part 0 0 -1 = 0; part 0 1 -1 = 3; part 0 1 2 = 0; "
            + "part 0 2 -1 = 2; part 0 2 0 = 2; part 0 2 1 = 6; part 0 2 2 = NONE; entry 0 2 2 0; part 0 0 -1 = 1; "
            + "part 0 0 0 = 0; part 0 2 -1 = 2; part 0 2 0 = 2; part 0 2 1 = 0");
    }

    private static void whence() {
        sentence("The number at place k of an ELEMENT of which the IMAGE is ONE with that told: of these that which would be "
            + "NORMAL, if the KERNEL were NOTHING. Refused as told: BAD: no MAP, a, b, c, k; STATE: it is not WELL; "
            + "NONE: there is none.");
        play("whence 0 0 0 0 0 = BAD; group 0 2; group 1 1; map 0 0 1; entry 0 0 0 2; entry 0 1 0 3; whence 0 1 0 0 0 = 2; "
            + "whence 0 1 0 0 1 = -1; whence 0 5 0 0 0 = 1; whence 0 5 0 0 1 = 1; whence 0 -999 9 9 0 = 0; "
            + "whence 0 -999 9 9 1 = -333; whence 0 999 0 0 1 = 333; whence 0 0 999 999 0 = 0; whence 0 1 0 0 2 = BAD; "
            + "whence 0 1 0 0 -1 = BAD; whence 0 1000 0 0 0 = BAD; whence 0 0 1000 0 0 = BAD; whence 0 0 0 -1000 0 = BAD; "
            + "entry 0 0 0 6; whence 0 1 0 0 0 = NONE; whence 0 3 0 0 1 = 1; whence 0 3 0 0 0 = 0; relation 0 1 1 0; "
            + "whence 0 3 0 0 0 = STATE; whence 0 3 0 0 2 = BAD");
        play("group 0 2; group 1 1; relation 1 4 0 0; map 0 0 1; entry 0 0 0 1; entry 0 1 0 2; whence 0 3 0 0 0 = 1; "
            + "whence 0 3 0 0 1 = 1; whence 0 1 0 0 0 = 1; whence 0 1 0 0 1 = 0; whence 0 2 0 0 0 = 0; whence 0 2 0 0 1 = 1; "
            + "whence 0 4 0 0 0 = 0; whence 0 4 0 0 1 = 0; whence 0 -1 0 0 0 = 1; whence 0 -1 0 0 1 = 1");
        play("group 0 1; group 1 3; relation 1 0 0 5; map 0 0 1; entry 0 0 0 1; entry 0 0 1 -2; entry 0 0 2 3; "
            + "whence 0 4 -8 12 0 = 4; whence 0 4 -8 2 0 = 4; whence 0 4 -8 3 0 = NONE; whence 0 4 8 12 0 = NONE; "
            + "whence 0 -7 14 4 0 = -7; whence 0 0 0 5 0 = 0; whence 0 0 0 1 0 = NONE; whence 0 0 0 0 1 = BAD; map 1 5 1; "
            + "whence 1 0 0 0 0 = BAD; map 2 0 5; whence 2 999 999 999 0 = 0");
        play("group 0 3; relation 0 4 0 0; group 1 2; relation 1 0 2 0; map 0 0 1; entry 0 1 0 2; entry 0 2 1 1; "
            + "entry 0 0 1 1; whence 0 6 1 0 0 = 0; whence 0 6 1 0 1 = 3; whence 0 6 1 0 2 = 1; whence 0 6 0 0 2 = 0; "
            + "whence 0 6 -1 0 2 = 1; whence 0 5 1 0 0 = NONE; whence 0 -2 0 0 1 = -1");
    }

    private static void exact() {
        sentence("1, if two MAPS are EXACT one behind the other, else 0. BAD: no MAPS; "
            + "STATE: one is not WELL, or the second is not from the GROUP that the first is to.");
        play("exact 0 0 = BAD; map 0 0 1; map 1 1 2; exact 0 1 = 1; exact 1 0 = STATE; exact 0 7 = BAD; exact 7 0 = BAD; "
            + "exact 0 8 = BAD; exact -1 0 = BAD; group 1 1; map 0 0 1; map 1 1 2; exact 0 1 = 0; relation 1 1 0 0; "
            + "exact 0 1 = 1");
        play("group 0 1; relation 0 2 0 0; group 1 1; relation 1 4 0 0; map 0 0 1; entry 0 0 0 2; map 1 1 0; entry 1 0 0 1; "
            + "exact 0 1 = 1; exact 1 0 = 0; entry 0 0 0 1; exact 0 1 = STATE; exact 1 0 = STATE; entry 0 0 0 0; "
            + "exact 0 1 = 0; exact 1 0 = 1; exact 0 0 = STATE; exact 1 7 = BAD; exact 7 1 = BAD");
    }

    private static void feed() {
        sentence("n bytes (1 to 8) come to THE TAPE, the lowest of eight first: how many it has. BAD; FULL: more than 100.");
        // 0x62612b61 is "a+ab" from its lowest byte on; what is above the n bytes does not come
        play("group 0 1; map 0 0 0; entry 0 0 0 2; feed 1650535265 1 = 1; text 1 = 1; at 1 0 0 = 1002; feed 1650535265 3 = 3; "
            + "text 1 = 1; at 1 0 0 = 1004; feed 1650535265 4 = 4; text 1 = -103; feed -1 1 = 1; text 1 = -100; "
            + "feed 97 8 = 8; text 1 = -101; feed 2314885810180139873 8 = 8; text 1 = 1; at 1 0 0 = 1006; "
            + "feed -44706824957383839 8 = 8; text 1 = -107; feed -44706824957383839 7 = 7; text 1 = 1; at 1 0 0 = 1008");
        Calls calls = new Calls();
        for (int n = 1; n <= 8; n++) {
            calls.then("feed 0 " + n + " = " + n * (n + 1) / 2);
        }
        calls.then("feed 0 0 = BAD; feed 0 9 = BAD; feed 0 -1 = BAD; many 6 = 36");
        for (int i = 1; i <= 63; i++) {
            calls.then("feed 0 1 = " + (36 + i));
        }
        calls.then("feed 0 8 = FULL; feed 0 2 = FULL; feed 0 9 = BAD; many 6 = 99; feed 0 1 = 100; feed 0 1 = FULL; "
            + "feed 0 0 = BAD; many 6 = 100; text 0 = -100; feed 0 1 = 1");
    }

    private static void text() {
        sentence("THE TAPE tells a MAP, which MAP f becomes: 1. BAD: f (THE TAPE stays)");
        play("group 0 1; group 1 2; map 0 0 1; entry 0 0 0 3; entry 0 0 1 4; text 7 'a' = 1; mapIs 7 0 = 0; mapIs 7 1 = 1; "
            + "at 7 0 0 = 1003; at 7 0 1 = 1004; at 7 1 0 = BAD; many 2 = 2; text 0 'a+h' = 1; at 0 0 1 = 1008; "
            + "at 7 0 1 = 1004; tape 'a' = 1; text 8 = BAD; text -1 = BAD; text MAX = BAD; many 6 = 1; text 0 = 1; "
            + "many 6 = 0; at 0 0 1 = 1008; map 2 1 0; text 0 'c' = 1; mapIs 0 0 = 1; at 0 1 0 = 1000; text 2 'h.c' = 1; "
            + "mapIs 2 0 = 0; mapIs 2 1 = 0");
    }

    // ------------------------------------------------------------------ diagrams, moves

    private static void diagrams() {
        sentence("1, if a DIAGRAM is RIGHT, else 0. BAD: no such SHEET; -13; -11; -12; "
            + "NONE: one is no MAP, or they are not from, to GROUPS as told.");
        play("sheet 0 0 7; diagram 0 0 = NONE; map 0 0 0; diagram 0 0 = 1; diagram 4 0 = BAD; diagram -1 0 = BAD; "
            + "diagram 1 0 = MISSING; sheet 1 1 7; diagram 1 0 = UNLIKE; diagram 1 -1 = UNLIKE; sheet 1 2 7; "
            + "diagram 1 9 = UNLIKE; diagram 0 1 = OUTSIDE; diagram 0 -1 = OUTSIDE; sheet 0 0 6; diagram 0 0 = OUTSIDE; "
            + "sheet 0 0 8; diagram 0 0 = 1; diagram 0 1 = 1; diagram 0 2 = OUTSIDE; put 0 7 1; diagram 0 0 = 1; "
            + "diagram 0 1 = NONE; put 0 7 256; diagram 0 1 = 1; put 0 0 -1; diagram 0 0 = NONE");
        sentence("The number at place k (of A2) of what an ELEMENT of C is CONNECTED with.");
        // A2 has three GENERATORS, C one; e, r are 0, so that B counts nothing
        play("group 0 0; group 1 1; group 2 1; group 3 3; group 4 3; map 0 0 1; map 1 1 2; entry 1 0 0 1; map 2 3 4; "
            + "entry 2 0 0 1; entry 2 1 1 1; entry 2 2 2 1; map 3 4 5; map 4 0 3; map 5 1 4; entry 5 0 0 1; entry 5 0 1 -2; "
            + "entry 5 0 2 3; map 6 2 5; fill 0 0 0 1 2 3 4 5 6; diagram 0 0 = 1; connected 0 0 7 0 0 0 = 7; "
            + "connected 0 0 7 0 0 1 = -14; connected 0 0 7 0 0 2 = 21; connected 0 0 7 0 0 3 = BAD; "
            + "connected 0 0 7 0 0 -1 = BAD; connected 0 0 -999 999 999 2 = -2997; connected 0 0 999 0 0 1 = -1998; "
            + "connected 0 0 1000 0 0 0 = BAD; connected 0 0 0 1000 0 0 = BAD; connected 0 0 0 0 1000 0 = BAD; "
            + "connected 0 0 0 999 -999 0 = 0");
    }

    private static void moves() {
        sentence("A MOVE comes: how many there are. BAD: what (0 to 3), v (what 3: any; what 2: no MAP); FULL.");
        Calls calls = play("map 7 0 0; move 0 0 = 1; move 0 2 = 2; move 0 3 = BAD; move 0 -1 = BAD; move 1 -9 = 3; "
            + "move 1 9 = 4; move 1 -10 = BAD; move 1 10 = BAD; move 2 7 = 5; move 2 6 = BAD; move 2 8 = BAD; "
            + "move 2 -1 = BAD; move 3 MIN = 6; move 3 MAX = 7; move 4 0 = BAD; move -1 0 = BAD; many 4 = 7");
        calls.then("move 3 0 = 8; move 3 0 = 9; move 3 0 = 10; move 3 0 = 11; move 3 0 = 12; move 3 0 = FULL; "
            + "move 0 0 = FULL; move 2 7 = FULL; move 0 3 = BAD; move 2 6 = BAD; many 4 = 12; stop 3 = 5; move 3 0 = 6");
        sentence("All MOVES of a sort (0 to 3) go: how many there are then. BAD.");
        play("stop 0 = 0; stop 3 = 0; stop 4 = BAD; stop -1 = BAD; map 0 0 0; move 0 1; move 1 1; move 2 0; move 3 1; "
            + "move 0 0; move 1 0; move 2 0; move 3 0; stop 4 = BAD; many 4 = 8; stop 0 = 6; stop 0 = 6; stop 1 = 4; "
            + "stop 2 = 2; stop 3 = 0; many 4 = 0");
        play("group 0 1; move 1 2; move 0 0; move 1 3; move 0 0; run 0 1 0 0 0 = 10; stop 0 = 2; run 0 1 0 0 0 = 6; undo; "
            + "stop 1 = 2; run 0 1 0 0 0 = 3; undo; run 0 1 0 0 0 = 10; stop 2 = 4; run 0 1 0 0 0 = 10; stop 3 = 4");
    }

    private static void run() {
        sentence("A RUN from an ELEMENT of a GROUP: k 0 to 2 the number at place k then (0, if the GROUP has no such place), "
            + "3 the GROUP that it is of then. Refused as told: BAD; then, by MOVES: STATE: it breaks off; -16.");
        play("group 0 1; group 1 2; group 2 3; run 0 7 8 9 0 = 7; run 0 7 8 9 1 = 0; run 0 7 8 9 2 = 0; run 0 7 8 9 3 = 0; "
            + "run 1 7 8 9 1 = 8; run 1 7 8 9 2 = 0; run 1 7 8 9 3 = 1; run 2 7 8 9 2 = 9; run 3 7 8 9 0 = 0; "
            + "run 3 7 8 9 3 = 3; run 0 7 8 9 4 = BAD; run 0 7 8 9 -1 = BAD; run 6 7 8 9 0 = BAD; run 0 1000 0 0 0 = BAD; "
            + "run 0 0 1000 0 0 = BAD; run 0 0 0 1000 0 = BAD; map 0 0 2; entry 0 0 2 5; move 2 0; run 0 7 8 9 0 = 0; "
            + "run 0 7 8 9 2 = 35; run 0 7 8 9 3 = 2; map 1 2 0; entry 1 2 0 -1; move 2 1; run 0 7 8 9 0 = -35; "
            + "run 0 7 8 9 2 = 0; run 0 7 8 9 3 = 0; run 1 7 8 9 0 = STATE; run 1 7 8 9 4 = BAD; run 2 7 8 9 3 = STATE; "
            + "map 2 0 3; move 2 2; run 0 7 8 9 0 = 0; run 0 7 8 9 3 = 3");
        // what comes first of breaking off and a number that is too great: by MOVES
        String great = "move 1 9; move 1 9; move 1 9; move 1 9; move 1 9; move 1 9; move 1 9;";
        play("group 0 1; map 0 1 1;" + great + "move 2 0; run 0 999 0 0 0 = GREAT; run 0 1 0 0 0 = STATE; "
            + "run 0 1000 0 0 0 = BAD");
        play("group 0 1; map 0 1 1; move 2 0;" + great + "run 0 999 0 0 0 = STATE; run 0 1 0 0 0 = STATE; stop 2; "
            + "run 0 999 0 0 0 = GREAT");
    }

    private static void undo() {
        sentence("The latest CHANGE is undone: how many can be yet. NONE: there is none.");
        play("undo = NONE; group 0 3; undo = 0; undo = NONE; group 0 3; group 0 2; group 0 1; undo = 2; groupIs 0 0 = 2; "
            + "undo = 1; groupIs 0 0 = 3; group 0 1; many 5 = 2; undo = 1; groupIs 0 0 = 3; undo = 0; groupIs 0 0 = 0; "
            + "undo = NONE; groupIs 0 0 = 0");
        play("sheet 0 1 2; put 0 0 5; lay 0 0 0 0 0; hold 1 0; tape 'a'; keep; group 0 1; sheet 0 -1 0; hold 0 -1; "
            + "lay 1 0 4 0 0; tape 'a'; undo = 0; item 0 1 0 = MISSING; lies 0 0 = MISSING; lies 1 0 = 4; many 6 = 2; "
            + "groupIs 0 0 = 0");
        play("group 0 1; relation 0 4 0 0; relation 0 6 0 0; relation 0 9 0 0; undo; relation 0 8 0 0; undo; step 0 0 = 2; "
            + "undo; step 0 0 = 4; relation 0 9 0 0; step 0 0 = 1; many 5 = 3");
    }

    // ------------------------------------------------------------------ the host

    private static void sheet() {
        sentence("A SHEET becomes a row of n of a sort, all 0, or missing (sort -1; "
            + "n counts nothing then): 1. BAD: no such SHEET, sort, n above 40; -14.");
        play("sheet 0 0 0 = 1; sheet 0 0 40 = 1; sheet 0 0 41 = BAD; sheet 0 0 -1 = BELOW; sheet 0 0 MIN = BELOW; "
            + "sheet 0 0 MAX = BAD; sheet 0 3 1 = BAD; sheet 0 -2 1 = BAD; sheet 0 3 -1 = BAD; sheet 4 0 -1 = BAD; "
            + "sheet 4 -1 0 = BAD; sheet 0 -1 41 = 1; sheet 0 -1 -1 = 1; sheet 0 -1 MIN = 1; sheet 0 -1 MAX = 1; "
            + "item 0 0 0 = MISSING; put 0 0 1 = MISSING; hold 0 0; taken 0 10 = MISSING");
        play("sheet 1 2 3; put 1 0 1; put 1 1 2; put 1 2 3; sheet 1 2 3 = 1; item 1 2 0 = 0; item 1 2 1 = 0; item 1 2 2 = 0; "
            + "put 1 2 3; sheet 1 1 3; item 1 1 2 = 0; put 1 2 3; sheet 1 1 2; item 1 1 2 = OUTSIDE; sheet 1 1 3; "
            + "item 1 1 2 = 0; put 1 2 3; sheet 1 -1 0; sheet 1 1 3; item 1 1 2 = 0; item 1 1 3 = OUTSIDE; "
            + "sheet 1 0 41 = BAD; item 1 1 0 = 0; sheet 1 0 -1 = BELOW; item 1 1 0 = 0");
    }

    private static void putAndItem() {
        sentence("Item i becomes v, narrowed to its sort: 1. BAD: no such SHEET; -11; -12.");
        String[] bytes = {"127 127", "128 -128", "255 -1", "256 0", "-128 -128", "-129 127", "-9223372036854775808 0",
            "9223372036854775807 -1", "4294967296 0", "384 -128"};
        String[] ints = {"2147483647 2147483647", "2147483648 -2147483648", "4294967295 -1", "4294967296 0",
            "-2147483649 2147483647", "9223372036854775807 -1", "-9223372036854775808 0", "256 256", "-129 -129"};
        for (String each : bytes) {
            String[] two = each.split(" ");
            play("sheet 0 0 2; put 0 1 " + two[0] + " = 1; item 0 0 1 = " + two[1] + "; item 0 0 0 = 0");
        }
        for (String each : ints) {
            String[] two = each.split(" ");
            play("sheet 0 1 2; put 0 1 " + two[0] + " = 1; item 0 1 1 = " + two[1] + "; item 0 1 0 = 0; sheet 1 2 2; "
                + "put 1 1 " + two[0] + " = 1; item 1 2 1 = " + two[1] + "; item 1 2 0 = 0");
        }
        play("group 0 1; sheet 0 1 3; put 0 0 4294967297; span 0 0 0 1 = 0; put 0 1 -4294967296; put 0 0 4294967296; "
            + "span 0 0 0 1 = 1; sheet 1 0 7; map 0 1 1; put 1 6 256; diagram 1 0 = 1");
        play("put 0 0 1 = MISSING; put 4 0 1 = BAD; put -1 0 1 = BAD; sheet 0 0 1; put 0 1 1 = OUTSIDE; put 0 -1 1 = OUTSIDE; "
            + "put 0 0 1 = 1; sheet 0 2 0; put 0 0 1 = OUTSIDE");
        sentence("Item i, taken for a sort (0 to 2; of longs the lowest 32 bits). BAD: no such SHEET, sort; -13; -11; "
            + "-12. (An item may be as low as these, too.)");
        play("sheet 0 2 3; put 0 0 4294967296; item 0 2 0 = 0; put 0 1 2147483648; item 0 2 1 = -2147483648; put 0 2 -1; "
            + "item 0 2 2 = -1; put 0 0 -12884901889; item 0 2 0 = -1; put 0 0 8589934599; item 0 2 0 = 7; "
            + "item 0 1 0 = UNLIKE; item 0 0 0 = UNLIKE");
        for (int low : new int[] {-1, -2, -3, -4, -11, -12, -13, -14, -16, -100}) {
            for (int sort = 0; sort < 3; sort++) {
                play("sheet 3 " + sort + " 40; put 3 39 " + low + " = 1; item 3 " + sort + " 39 = " + low + "; "
                    + "item 3 " + sort + " 40 = OUTSIDE; item 3 3 39 = BAD; item 3 -1 39 = BAD");
            }
        }
        play("item 0 0 0 = MISSING; item 0 3 0 = BAD; item 4 0 0 = BAD; sheet 0 0 1; item 0 0 0 = 0; item 0 0 1 = OUTSIDE; "
            + "item 0 1 1 = UNLIKE; sheet 0 0 0; item 0 0 0 = OUTSIDE; item 0 2 0 = UNLIKE");
    }

    private static void layAndHold() {
        sentence("A SHELF holds an ELEMENT of a GROUP: 1. BAD.");
        play("lay 0 0 999 -999 999 = 1; lies 0 0 = 0; lies 0 1 = 0; lies 0 2 = 0; group 0 1; lay 0 0 999 -999 999 = 1; "
            + "lies 0 0 = 999; lies 0 1 = 0; group 0 2; lay 0 0 -999 999 5 = 1; lies 0 1 = 999; lies 0 2 = 0; group 0 3; "
            + "lay 0 0 5 6 -999 = 1; lies 0 2 = -999; relation 0 4 0 0; lies 0 0 = 5; lay 0 0 6 0 0 = 1; lies 0 0 = 6; "
            + "lay 0 0 1000 0 0 = BAD; lay 0 0 0 -1000 0 = BAD; lay 0 0 0 0 1000 = BAD; lay 4 0 0 0 0 = BAD; "
            + "lay 0 6 0 0 0 = BAD; lies 0 0 = 6; lay 0 5 1 1 1 = 1; lies 0 3 = 5");
        sentence("A SHELF holds the row of a SHEET (nothing, if it is missing), or nothing (sheet -1): 1. BAD.");
        play("hold 0 0 = 1; taken 0 10 = MISSING; sheet 3 0 0; hold 3 3 = 1; taken 3 10 = 0; sheet 3 2 40; taken 3 10 = 0; "
            + "taken 3 12 = UNLIKE; hold 3 3 = 1; taken 3 12 = 40; sheet 3 -1 0; taken 3 12 = 40; hold 3 3 = 1; "
            + "taken 3 12 = MISSING; lay 3 0 0 0 0; hold 3 3 = 1; lies 3 0 = MISSING; lay 3 0 0 0 0; hold 3 -1 = 1; "
            + "lies 3 0 = MISSING; hold 3 -2 = BAD; hold 3 4 = BAD; hold 4 0 = BAD; hold -1 -1 = BAD; sheet 0 1 5; hold 0 0; "
            + "hold 1 0; hold 0 -1; taken 1 11 = 5; taken 0 11 = MISSING");
    }

    private static void add() {
        sentence("To the ELEMENT on a SHELF that on another SHELF (or the same) is added, number by number: 1. BAD; "
            + "-11: one holds nothing; -13: one holds a row, or they are of unlike GROUPS; "
            + "-16: a number would be above 1000000000, or below -1000000000.");
        play("group 0 3; relation 0 2 0 0; lay 0 0 1 -2 3; lay 1 0 10 20 -30; add 0 1 = 1; lies 0 0 = 11; lies 0 1 = 18; "
            + "lies 0 2 = -27; lies 1 0 = 10; lies 1 2 = -30; add 1 0 = 1; lies 1 0 = 21; lies 1 1 = 38; lies 1 2 = -57; "
            + "add 1 1 = 1; lies 1 0 = 42; lies 1 1 = 76; lies 1 2 = -114; lies 0 0 = 11; lies 1 3 = 0; many 5 = 2");
        play("group 0 1; group 1 1; lay 0 0 1 0 0; lay 1 1 1 0 0; add 0 1 = UNLIKE; add 1 0 = UNLIKE; lies 0 0 = 1; "
            + "add 0 2 = MISSING; add 2 0 = MISSING; add 2 2 = MISSING; sheet 0 0 0; hold 2 0; add 0 2 = UNLIKE; "
            + "add 2 0 = UNLIKE; add 2 2 = UNLIKE; add 2 3 = MISSING; add 3 2 = MISSING; add 4 0 = BAD; add 0 4 = BAD; "
            + "add -1 3 = BAD; add 3 -1 = BAD; group 0 2; lay 3 0 5 6 0; add 0 3 = 1; lies 0 0 = 6; lies 0 1 = 6; group 0 0; "
            + "add 0 3 = 1; lies 0 1 = 12");
    }

    /** 1000000000 is 512 by 1953125, which is added up bit by bit. */
    private static Calls billionOnShelf(int place, int sign) {
        int[] row = {0, 0, 0};
        row[place] = 512 * sign;
        Calls calls = play("group 0 3; lay 0 0 0 0 0; lay 1 0 " + row[0] + " " + row[1] + " " + row[2]);
        for (int bits = 1953125; bits != 0; bits >>= 1) {
            calls.then((bits & 1) == 0 ? "" : "add 0 1 = 1").then(bits == 1 ? "" : "add 1 1 = 1");
        }
        return calls;
    }

    private static void addAtTheEnds() {
        for (int place = 0; place < 3; place++) {
            for (int sign = -1; sign <= 1; sign += 2) {
                int[] one = {7, 7, 7};
                one[place] = sign;
                String more = "lay 2 0 " + one[0] + " " + one[1] + " " + one[2];
                one[place] = -sign;
                String less = "lay 3 0 " + one[0] + " " + one[1] + " " + one[2];
                billionOnShelf(place, sign).then("lies 0 " + place + " = "
                    + "" + 1000000000L * sign + ";" + more + ";" + less + "; add 0 2 = GREAT; add 0 0 = GREAT; "
                    + "lies 0 " + (place + 1) % 3 + " = 0; add 2 0 = GREAT; lies 2 " + (place + 1) % 3 + " = 7")
                    .then("add 0 3 = 1; lies 0 " + place + " = " + 999999999L * sign + "; lies 0 " + (place + 1) % 3 + " = 7; "
                        + "add 0 2 = 1; lies 0 " + place + " = " + 1000000000L * sign + "; add 0 2 = GREAT; "
                        + "lies 0 " + (place + 2) % 3 + " = 14")
                    .then("group 0 0; add 0 2 = GREAT; add 0 3 = 1; many 5 = 2");
            }
        }
    }

    private static void rest() {
        sentence("The ELEMENT on a SHELF becomes NORMAL (numbers that its GROUP has not stay): 1. BAD; -11; -13: a row; "
            + "-16: as of add().");
        play("group 0 3; lay 0 0 -5 8 9; rest 0 = 1; lies 0 0 = -5; relation 0 3 0 1; rest 0 = 1; lies 0 0 = 1; lies 0 1 = 8; "
            + "lies 0 2 = 11; lies 0 3 = 0; rest 0 = 1; lies 0 2 = 11; group 0 2; relation 0 0 5 0; rest 0 = 1; lies 0 0 = 1; "
            + "lies 0 1 = 3; lies 0 2 = 11; group 0 1; relation 0 1 9 9; rest 0 = 1; lies 0 0 = 0; lies 0 1 = 3; "
            + "lies 0 2 = 11; group 0 0; rest 0 = 1; lies 0 1 = 3; group 0 3; relation 0 0 0 2; rest 0 = 1; lies 0 1 = 3; "
            + "lies 0 2 = 1; rest 1 = MISSING; rest 4 = BAD; rest -1 = BAD; many 5 = 9; sheet 0 1 3; hold 1 0; "
            + "rest 1 = UNLIKE; taken 1 11 = 3");
        billionOnShelf(0, 1).then("group 0 2; relation 0 1 1 0; rest 0 = 1; lies 0 0 = 0; lies 0 1 = -1000000000; rest 0 = 1; "
            + "lay 2 0 1 0 0; add 0 2 = 1; rest 0 = GREAT; lies 0 0 = 1; lies 0 1 = -1000000000; group 0 1; rest 0 = 1; "
            + "lies 0 0 = 1");
        billionOnShelf(0, -1).then("group 0 3; relation 0 1 0 1; lay 2 0 0 5 0; add 0 2 = 1; rest 0 = 1; lies 0 0 = 0; "
            + "lies 0 1 = 5; lies 0 2 = 1000000000; lay 2 0 -1 0 0; add 0 2 = 1; rest 0 = GREAT; lies 0 0 = -1; "
            + "lies 0 2 = 1000000000; lay 3 0 2 0 0; add 0 3 = 1; rest 0 = 1; lies 0 2 = 999999999");
        billionOnShelf(1, 1).then("group 0 1; relation 0 3 0 0; rest 0 = 1; lies 0 1 = 1000000000; group 0 3; "
            + "relation 0 0 1 9; rest 0 = GREAT; lies 0 1 = 1000000000; lies 0 2 = 0");
    }

    private static void liesAndTaken() {
        sentence("The k-th number (0 to 2) of the ELEMENT on a SHELF; k 3: its GROUP. Refused as told: BAD; -11; -13: a row.");
        play("lies 0 0 = MISSING; lies 0 3 = MISSING; lies 0 4 = BAD; lies 0 -1 = BAD; lies 4 0 = BAD; group 5 3; "
            + "lay 0 5 -1 -11 -999; lies 0 0 = -1; lies 0 1 = -11; lies 0 2 = -999; lies 0 3 = 5; lies 0 4 = BAD; "
            + "lies 0 -1 = BAD; sheet 0 0 3; hold 0 0; lies 0 0 = UNLIKE; lies 0 3 = UNLIKE; lies 0 4 = BAD; lay 0 0 1 1 1; "
            + "lies 0 3 = 0; lies 0 0 = 0");
        sentence("What a SHELF holds, taken for an ELEMENT of GROUP as (0 to 5): 1; "
            + "for a row of bytes (10), ints (11), longs (12): how many items. BAD; -11; -13.");
        for (int g = 0; g < 6; g++) {
            Calls calls = play("lay 2 " + g + " 0 0 0; taken 2 6 = BAD; taken 2 9 = BAD; taken 2 13 = BAD; taken 2 -1 = BAD; "
                + "taken 2 10 = UNLIKE; taken 2 11 = UNLIKE; taken 2 12 = UNLIKE");
            for (int as = 0; as < 6; as++) {
                calls.then("taken 2 " + as + " = " + (as == g ? "1" : "UNLIKE"));
            }
        }
        for (int sort = 0; sort < 3; sort++) {
            for (int n : new int[] {0, 1, 40}) {
                Calls calls = play("sheet 1 " + sort + " " + n + "; hold 2 1; taken 2 0 = UNLIKE; taken 2 5 = UNLIKE; "
                    + "taken 2 6 = BAD; taken 2 9 = BAD; taken 2 13 = BAD");
                for (int as = 0; as < 3; as++) {
                    calls.then("taken 2 " + (10 + as) + " = " + (as == sort ? "" + n : "UNLIKE"));
                }
            }
        }
        play("taken 0 0 = MISSING; taken 0 10 = MISSING; taken 0 6 = BAD; taken 4 0 = BAD; taken -1 10 = BAD");
    }

    // ------------------------------------------------------------------ kept

    private static void many() {
        sentence("How many: what = 0 GENERATORS of all GROUPS, 1 RELATIONS of all, 2 MAPS, 3 those WELL, as a set, 4 MOVES, "
            + "5 CHANGES that can be undone, 6 bytes of THE TAPE. BAD: another what.");
        Calls calls = new Calls();
        for (int g = 0; g < 6; g++) {
            calls.thenWith(g, "group # 3; relation # 0 0 0; relation # 1 2 3; relation # 0 0 0; relation # 0 0 0");
            calls.then("many 0 = " + 3 * (g + 1) + "; many 1 = " + 4 * (g + 1) + "; many 5 = " + Math.min(20, 5 * (g + 1)));
        }
        for (int f = 0; f < 8; f++) {
            calls.thenWith(f, "map # 0 1; many 2 = " + (f + 1) + "; many 3 = " + ((2 << f) - 1));
        }
        for (int m = 1; m <= 12; m++) {
            calls.then("move 0 0 = " + m + "; many 4 = " + m);
        }
        calls.then("group 0 0; many 0 = 15; many 1 = 20; many 2 = 0; many 3 = 0; many 5 = 20; tape '0123456789' = 10; "
            + "many 6 = 10; many 7 = BAD; many -1 = BAD; undo = 19; many 0 = 18; many 1 = 24; many 2 = 8; many 3 = 255; "
            + "many 5 = 19; many 6 = 10");
    }

    private static void manyWell() {
        for (int f = 0; f < 8; f++) {
            Calls calls = play("group 0 1; group 1 1; relation 0 5 0 0; relation 1 7 0 0");
            for (int e = 0; e < 8; e++) {
                calls.then("map " + e + " 0 1; entry " + e + " 0 0 1");
            }
            calls.then("many 3 = 0; many 2 = 8; entry " + f + " 0 0 7; many 3 = " + (1 << f) + "; map " + f + " 1 0; "
                + "many 3 = " + (1 << f) + "; entry " + f + " 0 0 1; many 3 = 0; relation 1 5 0 0; "
                + "many 3 = " + (255 - (1 << f)) + "; many 2 = 8");
        }
    }

    private static void keep() {
        sentence("GROUPS, MAPS, MOVES are kept: 1.");
        play("keep = 1; group 0 1; map 0 0 0; move 0 0; again = 0; groupIs 0 0 = 0; many 2 = 0; many 4 = 0; keep = 1; "
            + "keep = 1; again = 0; many 5 = 0");
        play("group 0 2; relation 0 6 3 0; map 0 0 0; entry 0 1 0 5; move 2 0; move 1 4; keep = 1; many 5 = 6; undo; undo; "
            + "entry 0 1 0 7; group 0 2; relation 0 1 1 0; map 0 0 1; move 3 0; stop 2; again = 1; groupIs 0 0 = 2; "
            + "groupIs 0 1 = 1; step 0 0 = 6; at 0 1 0 = 1005; mapIs 0 1 = 0; many 4 = 2; run 0 1 1 0 0 = 20; undo = NONE");
        play("group 0 1; keep = 1; group 0 2; keep = 1; group 0 3; again = 0; groupIs 0 0 = 2; group 0 3; keep = 1; "
            + "again = 0; groupIs 0 0 = 3; undo = NONE");
        play("group 0 1; map 3 0 0; move 2 3; keep; sheet 0 1 2; put 0 0 9; lay 0 0 5 0 0; hold 1 0; tape 'ab'; group 0 0; "
            + "again = 1; item 0 1 0 = 9; lies 0 0 = 5; taken 1 11 = 2; many 6 = 2; run 0 4 0 0 3 = 0");
    }

    private static void again() {
        sentence("They become what was kept latest (which stays), and no CHANGE can be undone then: how many MAPS. NONE: "
            + "nothing is kept.");
        play("again = NONE; group 0 1; again = NONE; groupIs 0 0 = 1; many 5 = 1; undo = 0; again = NONE; keep; again = 0; "
            + "again = 0");
        play("group 0 1; map 0 0 0; map 7 0 0; keep; map 5 0 0; entry 0 0 0 4; many 5 = 5; again = 2; many 5 = 0; "
            + "undo = NONE; at 0 0 0 = 1000; mapIs 5 0 = BAD; entry 0 0 0 5; many 5 = 1; undo = 0; at 0 0 0 = 1000; "
            + "undo = NONE; entry 0 0 0 6; group 0 0; again = 2; at 0 0 0 = 1000; groupIs 0 0 = 1; undo = NONE; group 0 3; "
            + "again = 2; groupIs 0 0 = 1; relation 0 5 0 0; again = 2; groupIs 0 1 = 0; relation 0 7 0 0 = 1; step 0 0 = 7");
        Calls calls = play("group 0 1; keep");
        for (int i = 0; i < 23; i++) {
            calls.then("relation 0 1 0 0 = 1; undo; group 0 2; group 0 1");
        }
        calls.then("many 5 = 20; again = 0; many 5 = 0; undo = NONE; group 0 3; group 0 2; undo = 1; groupIs 0 0 = 3; "
            + "undo = 0; groupIs 0 0 = 1; undo = NONE");
    }
}
