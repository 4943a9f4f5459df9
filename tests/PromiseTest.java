/** Each promise of the document by its number: ordinary inputs, the edges that it names, wrong inputs. */
public final class PromiseTest {
    private static final long REFUSED = -4000000000000000000L;
    private static int wrong = 0;
    private static int asked = 0;

    private static void due(int promise, String call, long got, long want) {
        asked++;
        if (got != want) {
            wrong++;
            System.out.println("promise " + promise + ": " + call + " answered " + got + ", due is " + want);
        }
    }

    public static void main(String[] args) {
        aNewObject();
        group();
        relation();
        groupIs();
        ring();
        step();
        normal();
        order();
        same();
        ofTwo();
        ofTwoWithEndless();
        span();
        map();
        entryAndAt();
        mapIs();
        image();
        part();
        whence();
        exact();
        feed();
        textAnswers();
        textFaults();
        textOrderOfRefusals();
        textNumbers();
        diagramRefusals();
        diagramRight();
        connected();
        move();
        stop();
        run();
        runBreaksOff();
        undo();
        sheet();
        putAndItem();
        lay();
        hold();
        add();
        rest();
        lies();
        taken();
        many();
        keepAndAgain();
        System.out.println(asked + " answers, " + wrong + " of them not as due");
        if (wrong > 0) {
            System.exit(1);
        }
    }

    // ------------------------------------------------------------------ helpers

    /** Makes a GROUP of one GENERATOR, so many times which is NOTHING. */
    private static void ringOf(GroupsByRelations x, int g, int times) {
        x.group(g, 1);
        if (times != 0) {
            x.relation(g, times, 0, 0);
        }
    }

    private static void mapOf(GroupsByRelations x, int f, int g, int h, int v) {
        x.map(f, g, h);
        x.entry(f, 0, 0, v);
    }

    private static int feedText(GroupsByRelations x, String text) {
        int count = 0;
        for (int i = 0; i < text.length(); i++) {
            count = x.feed(text.charAt(i), 1);
        }
        return count;
    }

    private static int textOf(GroupsByRelations x, int f, String text) {
        feedText(x, text);
        return x.text(f);
    }

    private static void bytes(GroupsByRelations x, int sheet, int... numbers) {
        x.sheet(sheet, 0, numbers.length);
        for (int i = 0; i < numbers.length; i++) {
            x.put(sheet, i, numbers[i]);
        }
    }

    private static void ints(GroupsByRelations x, int sheet, int... numbers) {
        x.sheet(sheet, 1, numbers.length);
        for (int i = 0; i < numbers.length; i++) {
            x.put(sheet, i, numbers[i]);
        }
    }

    /** Z/4 to Z/8 to Z/2 twice, with maps 0 to 6 in the order of a DIAGRAM; all of the lower row twice the upper. */
    private static GroupsByRelations twoRows() {
        GroupsByRelations x = new GroupsByRelations();
        int[] rings = {4, 8, 2, 4, 8, 2};
        for (int g = 0; g < 6; g++) {
            ringOf(x, g, rings[g]);
        }
        mapOf(x, 0, 0, 1, 2);
        mapOf(x, 1, 1, 2, 1);
        mapOf(x, 2, 3, 4, 2);
        mapOf(x, 3, 4, 5, 1);
        mapOf(x, 4, 0, 3, 2);
        mapOf(x, 5, 1, 4, 2);
        mapOf(x, 6, 2, 5, 0);
        bytes(x, 0, 0, 1, 2, 3, 4, 5, 6);
        return x;
    }

    // ------------------------------------------------------------------ groups

    private static void aNewObject() {
        GroupsByRelations x = new GroupsByRelations();
        for (int g = 0; g < 6; g++) {
            due(1, "groupIs(g, 0)", x.groupIs(g, 0), 0);
            due(1, "groupIs(g, 1)", x.groupIs(g, 1), 0);
            due(1, "groupIs(g, 2)", x.groupIs(g, 2), 0);
            due(1, "groupIs(g, 3)", x.groupIs(g, 3), 1);
        }
        for (int f = 0; f < 8; f++) {
            due(1, "mapIs(f, 0)", x.mapIs(f, 0), -1);
        }
        for (int what = 0; what <= 6; what++) {
            due(1, "many(what)", x.many(what), 0);
        }
        for (int i = 0; i < 4; i++) {
            due(1, "put to a missing sheet", x.put(i, 0, 1), -11);
            due(1, "taken of nothing", x.taken(i, 0), -11);
        }
        due(1, "again()", x.again(), -3);
        due(1, "undo()", x.undo(), -3);
        due(1, "text(0)", x.text(0), -100);
        due(1, "run without moves", x.run(0, 5, 5, 5, 0), 0);
        GroupsByRelations other = new GroupsByRelations();
        other.group(0, 3);
        due(1, "objects are apart", x.groupIs(0, 0), 0);
    }

    private static void group() {
        GroupsByRelations x = new GroupsByRelations();
        due(2, "group(5, 3)", x.group(5, 3), 0);
        due(2, "group(5, 0)", x.group(5, 0), 3);
        due(2, "group(5, 2)", x.group(5, 2), 0);
        due(2, "group(-1, 2)", x.group(-1, 2), -1);
        due(2, "group(6, 2)", x.group(6, 2), -1);
        due(2, "group(0, -1)", x.group(0, -1), -1);
        due(2, "group(0, 4)", x.group(0, 4), -1);
        x.relation(5, 1, 2, 3);
        x.map(0, 5, 4);
        x.map(1, 4, 5);
        x.map(2, 4, 4);
        due(2, "refused: nothing changes", x.group(5, 9), -1);
        due(2, "maps stay", x.many(2), 3);
        due(2, "group(5, 2) anew", x.group(5, 2), 2);
        due(2, "relations go", x.groupIs(5, 1), 0);
        due(2, "maps from it go", x.mapIs(0, 0), -1);
        due(2, "maps to it go", x.mapIs(1, 0), -1);
        due(2, "others stay", x.mapIs(2, 0), 4);
        due(2, "one change", x.undo(), 7);
        due(2, "undone with its maps", x.many(2), 3);
        due(2, "undone with its relations", x.groupIs(5, 1), 1);
    }

    private static void relation() {
        GroupsByRelations x = new GroupsByRelations();
        x.group(0, 1);
        due(3, "relation(0, 9, 9, -9)", x.relation(0, 9, 9, -9), 1);
        due(3, "what does not count", x.step(0, 0), 9);
        due(3, "relation(0, -6, 0, 0)", x.relation(0, -6, 0, 0), 2);
        due(3, "both count", x.step(0, 0), 3);
        due(3, "relation(0, 10, 0, 0)", x.relation(0, 10, 0, 0), -1);
        due(3, "relation(0, 0, -10, 0)", x.relation(0, 0, -10, 0), -1);
        due(3, "relation(0, 0, 0, 10)", x.relation(0, 0, 0, 10), -1);
        due(3, "relation(6, 0, 0, 0)", x.relation(6, 0, 0, 0), -1);
        due(3, "relation(-1, 0, 0, 0)", x.relation(-1, 0, 0, 0), -1);
        due(3, "of nothing", x.relation(0, 0, 0, 0), 3);
        due(3, "fourth", x.relation(0, 0, 0, 0), 4);
        due(3, "fifth", x.relation(0, 1, 0, 0), -2);
        due(3, "BAD ahead of FULL", x.relation(0, 1, 0, 99), -1);
        due(3, "nothing changed", x.step(0, 0), 3);
        due(3, "a group without generators", x.relation(1, 1, 2, 3), 1);
        due(3, "it is counted", x.many(1), 5);
    }

    private static void groupIs() {
        GroupsByRelations x = new GroupsByRelations();
        x.group(0, 3);
        x.relation(0, 2, 0, 0);
        x.relation(0, 0, 6, 0);
        due(4, "generators", x.groupIs(0, 0), 3);
        due(4, "relations", x.groupIs(0, 1), 2);
        due(4, "own rings", x.groupIs(0, 2), 3);
        due(4, "endless", x.groupIs(0, 3), 0);
        x.relation(0, 0, 0, 5);
        due(4, "own rings 2 and 30", x.groupIs(0, 2), 2);
        due(4, "elements", x.groupIs(0, 3), 60);
        due(4, "what -1", x.groupIs(0, -1), -1);
        due(4, "what 4", x.groupIs(0, 4), -1);
        due(4, "g -1", x.groupIs(-1, 0), -1);
        due(4, "g 6", x.groupIs(6, 0), -1);
        x.group(1, 3);
        x.relation(1, 9, 9, -9);
        x.relation(1, 9, -9, 9);
        x.relation(1, -9, 9, 9);
        due(4, "the greatest", x.groupIs(1, 3), 2916);
    }

    private static void ring() {
        GroupsByRelations x = new GroupsByRelations();
        x.group(0, 3);
        x.relation(0, 4, 0, 0);
        x.relation(0, 0, 6, 0);
        x.relation(0, 0, 0, 9);
        due(5, "ring 0 of 4, 6, 9", x.ring(0, 0), 1);
        due(5, "ring 1 of 4, 6, 9", x.ring(0, 1), 6);
        due(5, "ring 2 of 4, 6, 9", x.ring(0, 2), 36);
        due(5, "ring 3", x.ring(0, 3), -1);
        due(5, "ring -1", x.ring(0, -1), -1);
        due(5, "group 6", x.ring(6, 0), -1);
        x.group(1, 2);
        x.relation(1, 2, 4, 0);
        due(5, "2 beside endless", x.ring(1, 0), 2);
        due(5, "endless last", x.ring(1, 1), 0);
        due(5, "no generator 2", x.ring(1, 2), -1);
        x.relation(1, 3, 6, 0);
        due(5, "by more relations", x.ring(1, 0), 1);
        due(5, "endless yet", x.ring(1, 1), 0);
        x.group(2, 3);
        x.relation(2, 2, 2, 0);
        x.relation(2, 0, 2, 2);
        x.relation(2, 2, 0, 2);
        due(5, "rings 2, 2, 4", x.ring(2, 0) * 100 + x.ring(2, 1) * 10 + x.ring(2, 2), 224);
    }

    private static void step() {
        GroupsByRelations x = new GroupsByRelations();
        x.group(0, 2);
        x.relation(0, 4, 1, 0);
        due(6, "step 0", x.step(0, 0), 4);
        due(6, "no row leads at 1", x.step(0, 1), 0);
        x.relation(0, 6, 0, 0);
        due(6, "step 0 of 4 and 6", x.step(0, 0), 2);
        due(6, "step 1: 3 * (4, 1) - 2 * (6, 0)", x.step(0, 1), 3);
        due(6, "step 2", x.step(0, 2), -1);
        due(6, "step -1", x.step(0, -1), -1);
        due(6, "group 6", x.step(6, 0), -1);
        x.group(1, 3);
        x.relation(1, 0, -3, 5);
        due(6, "nothing leads at 0", x.step(1, 0), 0);
        due(6, "above 0", x.step(1, 1), 3);
        due(6, "nothing leads at 2", x.step(1, 2), 0);
    }

    private static void normal() {
        GroupsByRelations x = new GroupsByRelations();
        x.group(0, 2);
        x.relation(0, 6, 3, 0);
        due(7, "place 0", x.normal(0, 7, 0, 5, 0), 1);
        due(7, "place 1, below 0", x.normal(0, 7, 0, 5, 1), -3);
        due(7, "from below", x.normal(0, -1, 0, 0, 0), 5);
        due(7, "from below, place 1", x.normal(0, -1, 0, 0, 1), 3);
        due(7, "999", x.normal(0, 999, 999, 999, 1), 501);
        due(7, "-999", x.normal(0, -999, -999, -999, 1), -498);
        due(7, "place 2", x.normal(0, 0, 0, 0, 2), REFUSED - 1);
        due(7, "place -1", x.normal(0, 0, 0, 0, -1), REFUSED - 1);
        due(7, "a 1000", x.normal(0, 1000, 0, 0, 0), REFUSED - 1);
        due(7, "b -1000", x.normal(0, 0, -1000, 0, 0), REFUSED - 1);
        due(7, "c 1000", x.normal(0, 0, 0, 1000, 0), REFUSED - 1);
        due(7, "group 6", x.normal(6, 0, 0, 0, 0), REFUSED - 1);
        x.relation(0, 0, 5, 0);
        due(7, "both places", x.normal(0, 7, 0, 0, 0) * 10 + x.normal(0, 7, 0, 0, 1), 12);
    }

    private static void order() {
        GroupsByRelations x = new GroupsByRelations();
        x.group(0, 2);
        x.relation(0, 6, 3, 0);
        due(8, "(2, 1)", x.order(0, 2, 1, 9), 3);
        due(8, "(6, 3)", x.order(0, 6, 3, 0), 1);
        due(8, "(1, 0)", x.order(0, 1, 0, 0), 0);
        due(8, "nothing", x.order(0, 0, 0, 7), 1);
        x.relation(0, 0, 4, 0);
        due(8, "(1, 0): 24", x.order(0, 1, 0, 0), 24);
        due(8, "(0, 1): 4", x.order(0, 0, 1, 0), 4);
        due(8, "(0, 998): 2", x.order(0, 0, 998, 0), 2);
        due(8, "a 1000", x.order(0, 1000, 0, 0), -1);
        due(8, "b -1000", x.order(0, 0, -1000, 0), -1);
        due(8, "c 1000", x.order(0, 0, 0, 1000), -1);
        due(8, "group -1", x.order(-1, 0, 0, 0), -1);
        due(8, "no generators", x.order(3, 4, 5, 6), 1);
    }

    private static void same() {
        GroupsByRelations x = new GroupsByRelations();
        ringOf(x, 0, 6);
        x.group(1, 2);
        x.relation(1, 2, 0, 0);
        x.relation(1, 0, 3, 0);
        due(9, "6 and 2 with 3", x.same(0, 1), 1);
        due(9, "the other way", x.same(1, 0), 1);
        x.group(2, 3);
        x.relation(2, 1, 1, 1);
        x.group(3, 2);
        due(9, "two endless", x.same(2, 3), 1);
        due(9, "a group and itself", x.same(2, 2), 1);
        ringOf(x, 4, 4);
        x.group(5, 2);
        x.relation(5, 2, 0, 0);
        x.relation(5, 0, 2, 0);
        due(9, "4 and 2 with 2", x.same(4, 5), 0);
        due(9, "4 and 6", x.same(4, 0), 0);
        due(9, "group 6", x.same(0, 6), -1);
        due(9, "group -1", x.same(-1, 0), -1);
        x.group(4, 3);
        x.relation(4, 1, 0, 0);
        x.relation(4, 0, 1, 0);
        x.relation(4, 0, 0, 1);
        x.group(5, 0);
        due(9, "nothing told in two ways", x.same(4, 5), 1);
    }

    private static void ofTwo() {
        GroupsByRelations x = new GroupsByRelations();
        ringOf(x, 0, 4);
        ringOf(x, 1, 6);
        for (int what = 0; what <= 3; what++) {
            due(10, "of 4 and 6: how many", x.ofTwo(what, 0, 1, -1), 1);
            due(10, "of 4 and 6", x.ofTwo(what, 0, 1, 0), 2);
            due(10, "of 4 and 6: no more", x.ofTwo(what, 0, 1, 1), -3);
        }
        due(10, "sum of 4 and 6: how many", x.ofTwo(4, 0, 1, -1), 2);
        due(10, "sum of 4 and 6: 2", x.ofTwo(4, 0, 1, 0), 2);
        due(10, "sum of 4 and 6: 12", x.ofTwo(4, 0, 1, 1), 12);
        due(10, "what -1", x.ofTwo(-1, 0, 1, -1), -1);
        due(10, "what 5", x.ofTwo(5, 0, 1, -1), -1);
        due(10, "g 6", x.ofTwo(0, 6, 1, -1), -1);
        due(10, "h -1", x.ofTwo(0, 0, -1, -1), -1);
        due(10, "k -2", x.ofTwo(0, 0, 1, -2), -1);
        ringOf(x, 2, 5);
        due(10, "of 4 and 5: none", x.ofTwo(0, 0, 2, -1), 0);
        due(10, "of 4 and 5: none at 0", x.ofTwo(0, 0, 2, 0), -3);
        due(10, "sum of 4 and 5", x.ofTwo(4, 0, 2, 0), 20);
        x.group(3, 3);
        x.relation(3, 2, 0, 0);
        x.relation(3, 0, 4, 0);
        x.relation(3, 0, 0, 8);
        due(10, "nine pairs", x.ofTwo(1, 3, 3, -1), 9);
        due(10, "pair 4", x.ofTwo(1, 3, 3, 4), 2);
        due(10, "pair 5", x.ofTwo(1, 3, 3, 5), 4);
        due(10, "pair 7", x.ofTwo(1, 3, 3, 7), 4);
        due(10, "pair 8", x.ofTwo(1, 3, 3, 8), 8);
        due(10, "pair 9", x.ofTwo(1, 3, 3, 9), -3);
        due(10, "a group with itself, summed", x.ofTwo(4, 3, 3, 5), 8);
        due(10, "far k", x.ofTwo(4, 3, 3, Integer.MAX_VALUE), -3);
    }

    private static void ofTwoWithEndless() {
        GroupsByRelations x = new GroupsByRelations();
        ringOf(x, 0, 0);
        ringOf(x, 1, 6);
        due(10, "hom of endless and 6", x.ofTwo(0, 0, 1, 0), 6);
        due(10, "hom of 6 and endless", x.ofTwo(0, 1, 0, -1), 0);
        due(10, "tensor of endless and 6", x.ofTwo(1, 0, 1, 0), 6);
        due(10, "tensor of 6 and endless", x.ofTwo(1, 1, 0, 0), 6);
        due(10, "torsion of endless and 6", x.ofTwo(2, 0, 1, -1), 0);
        due(10, "torsion of 6 and endless", x.ofTwo(2, 1, 0, -1), 0);
        due(10, "extension of endless and 6", x.ofTwo(3, 0, 1, -1), 0);
        due(10, "extension of 6 and endless", x.ofTwo(3, 1, 0, 0), 6);
        due(10, "sum: 6 first", x.ofTwo(4, 0, 1, 0), 6);
        due(10, "sum: endless last", x.ofTwo(4, 0, 1, 1), 0);
        due(10, "hom of endless twice", x.ofTwo(0, 0, 0, 0), 0);
        due(10, "tensor of endless twice", x.ofTwo(1, 0, 0, 0), 0);
        due(10, "torsion of endless twice", x.ofTwo(2, 0, 0, -1), 0);
        due(10, "extension of endless twice", x.ofTwo(3, 0, 0, -1), 0);
        due(10, "with no generators", x.ofTwo(0, 0, 5, -1), 0);
        due(10, "sum with no generators", x.ofTwo(4, 5, 0, 0), 0);
    }

    private static void span() {
        GroupsByRelations x = new GroupsByRelations();
        x.group(0, 2);
        x.relation(0, 6, 0, 0);
        x.relation(0, 0, 8, 0);
        ints(x, 0, 2, 0, 99, 0, 6, -99, 99, -99, 0);
        due(11, "none", x.span(0, 0, 0, 0), 1);
        due(11, "(2, 0)", x.span(0, 0, 0, 1), 3);
        due(11, "(2, 0) and (0, 6)", x.span(0, 0, 0, 2), 12);
        due(11, "(0, 6)", x.span(0, 0, 3, 1), 4);
        due(11, "the last", x.span(0, 0, 6, 1), 8);
        due(11, "from place 1: (0, 99)", x.span(0, 0, 1, 1), 8);
        due(11, "group -1", x.span(-1, 0, 0, 0), -1);
        due(11, "sheet 4", x.span(0, 4, 0, 0), -1);
        due(11, "n -1", x.span(0, 0, 0, -1), -1);
        due(11, "n 10", x.span(0, 0, 0, 10), -1);
        due(11, "n 10 ahead of a missing sheet", x.span(0, 1, 0, 10), -1);
        due(11, "missing", x.span(0, 1, -1, 1), -11);
        x.sheet(1, 2, 9);
        due(11, "longs", x.span(0, 1, -1, 1), -13);
        due(11, "outside below", x.span(0, 0, -1, 1), -12);
        due(11, "outside above", x.span(0, 0, 7, 1), -12);
        due(11, "far outside", x.span(0, 0, Integer.MAX_VALUE, 9), -12);
        due(11, "at the end, none", x.span(0, 0, 9, 0), 1);
        x.put(0, 2, 100);
        due(11, "a number that the group has not", x.span(0, 0, 0, 1), -1);
        due(11, "outside ahead of it", x.span(0, 0, 0, 4), -12);
        due(11, "not told", x.span(0, 0, 3, 2), 8);
        x.put(0, 3, -100);
        due(11, "-100", x.span(0, 0, 3, 2), -1);
        ringOf(x, 1, 0);
        ints(x, 0, 0, 1, 1, 5, 0, 0);
        due(11, "nothing of endless", x.span(1, 0, 0, 1), 1);
        due(11, "endless", x.span(1, 0, 0, 2), 0);
        due(11, "no generators", x.span(5, 0, 0, 2), 1);
        x.sheet(0, 1, 0);
        due(11, "of an empty sheet", x.span(0, 0, 0, 0), 1);
        due(11, "one of an empty sheet", x.span(0, 0, 0, 1), -12);
        spanOfNone();
    }

    /** With n 0 no place is asked for; but the SHEET, and the sort of it, still are. */
    private static void spanOfNone() {
        GroupsByRelations x = new GroupsByRelations();
        ringOf(x, 0, 6);
        int[] places = {Integer.MIN_VALUE, -1, 0, 1, 2, 3, 4, 40, 41, Integer.MAX_VALUE};
        for (int place : places) {
            x.sheet(0, -1, 0);
            due(11, "none of a missing sheet, place " + place, x.span(0, 0, place, 0), -11);
            x.sheet(0, 0, 3);
            due(11, "none of bytes, place " + place, x.span(0, 0, place, 0), -13);
            x.sheet(0, 1, 0);
            due(11, "none of an empty sheet, place " + place, x.span(0, 0, place, 0), 1);
            ints(x, 0, 100, 100, 100);
            due(11, "none of three, place " + place, x.span(0, 0, place, 0), 1);
            due(11, "none of no generators, place " + place, x.span(5, 0, place, 0), 1);
            due(11, "one of three, place " + place, x.span(0, 0, place, 1), place == 0 ? -1 : -12);
        }
    }

    // ------------------------------------------------------------------ maps

    private static void map() {
        GroupsByRelations x = new GroupsByRelations();
        x.group(0, 2);
        due(12, "map(7, 0, 0)", x.map(7, 0, 0), 1);
        x.entry(7, 0, 1, 5);
        due(12, "anew", x.map(7, 0, 0), 1);
        due(12, "a table of 0", x.at(7, 0, 1), 1000);
        due(12, "f 8", x.map(8, 0, 0), -1);
        due(12, "f -1", x.map(-1, 0, 0), -1);
        due(12, "g 6", x.map(0, 6, 0), -1);
        due(12, "h -1", x.map(0, 0, -1), -1);
        due(12, "undone", x.undo(), 3);
        due(12, "its table is back", x.at(7, 0, 1), 1005);
        due(12, "without generators", x.map(0, 4, 5), 1);
        due(12, "many(2)", x.many(2), 2);
    }

    private static void entryAndAt() {
        GroupsByRelations x = new GroupsByRelations();
        x.group(0, 2);
        x.group(1, 3);
        x.map(0, 0, 1);
        due(13, "entry(0, 1, 2, -9)", x.entry(0, 1, 2, -9), 1000);
        due(13, "what it was", x.entry(0, 1, 2, 9), 991);
        due(14, "at(0, 1, 2)", x.at(0, 1, 2), 1009);
        due(14, "at(0, 0, 2)", x.at(0, 0, 2), 1000);
        due(13, "i 2", x.entry(0, 2, 0, 1), -1);
        due(13, "i -1", x.entry(0, -1, 0, 1), -1);
        due(13, "j 3", x.entry(0, 0, 3, 1), -1);
        due(13, "j -1", x.entry(0, 0, -1, 1), -1);
        due(13, "v 10", x.entry(0, 0, 0, 10), -1);
        due(13, "v -10", x.entry(0, 0, 0, -10), -1);
        due(13, "no map", x.entry(1, 0, 0, 0), -1);
        due(13, "f 8", x.entry(8, 0, 0, 0), -1);
        due(14, "i 2", x.at(0, 2, 0), -1);
        due(14, "j 3", x.at(0, 0, 3), -1);
        due(14, "i -1", x.at(0, -1, 0), -1);
        due(14, "j -1", x.at(0, 0, -1), -1);
        due(14, "no map", x.at(1, 0, 0), -1);
        due(14, "f -1", x.at(-1, 0, 0), -1);
        due(13, "changes", x.many(5), 5);
        due(13, "entry of 0 is a change", x.entry(0, 0, 0, 0), 1000);
        due(13, "changes", x.many(5), 6);
    }

    private static void mapIs() {
        GroupsByRelations x = new GroupsByRelations();
        ringOf(x, 0, 4);
        ringOf(x, 1, 8);
        mapOf(x, 0, 0, 1, 1);
        due(15, "from", x.mapIs(0, 0), 0);
        due(15, "to", x.mapIs(0, 1), 1);
        due(15, "4 times 1 is not nothing in 8", x.mapIs(0, 2), 0);
        due(15, "one to one of a map not well", x.mapIs(0, 3), -4);
        due(15, "onto of a map not well", x.mapIs(0, 4), -4);
        x.entry(0, 0, 0, 6);
        due(15, "well", x.mapIs(0, 2), 1);
        due(15, "one to one", x.mapIs(0, 3), 1);
        due(15, "not onto", x.mapIs(0, 4), 0);
        x.entry(0, 0, 0, 4);
        due(15, "not one to one", x.mapIs(0, 3), 0);
        mapOf(x, 1, 1, 0, 3);
        due(15, "onto by 3", x.mapIs(1, 4), 1);
        due(15, "8 to 4 is not one to one", x.mapIs(1, 3), 0);
        due(15, "what 5", x.mapIs(0, 5), -1);
        due(15, "what -1", x.mapIs(0, -1), -1);
        due(15, "no map", x.mapIs(2, 0), -1);
        due(15, "f 8", x.mapIs(8, 0), -1);
        x.map(3, 5, 1);
        due(15, "from nothing: one to one", x.mapIs(3, 3), 1);
        due(15, "from nothing: not onto", x.mapIs(3, 4), 0);
        x.map(4, 1, 5);
        due(15, "to nothing: not one to one", x.mapIs(4, 3), 0);
        due(15, "to nothing: onto", x.mapIs(4, 4), 1);
        ringOf(x, 2, 0);
        mapOf(x, 5, 2, 2, 2);
        due(15, "twice, of endless: one to one", x.mapIs(5, 3), 1);
        due(15, "twice, of endless: not onto", x.mapIs(5, 4), 0);
    }

    private static void image() {
        GroupsByRelations x = new GroupsByRelations();
        x.group(0, 2);
        x.group(1, 2);
        x.relation(1, 5, 0, 0);
        x.map(0, 0, 1);
        x.entry(0, 0, 0, 3);
        x.entry(0, 1, 0, 1);
        x.entry(0, 1, 1, -2);
        due(16, "place 0", x.image(0, 4, 6, 99, 0), 3);
        due(16, "place 1", x.image(0, 4, 6, 99, 1), -12);
        due(16, "-999", x.image(0, -999, -999, 0, 1), 1998);
        due(16, "k 2", x.image(0, 0, 0, 0, 2), REFUSED - 1);
        due(16, "k -1", x.image(0, 0, 0, 0, -1), REFUSED - 1);
        due(16, "a", x.image(0, 1000, 0, 0, 0), REFUSED - 1);
        due(16, "b", x.image(0, 0, -1000, 0, 0), REFUSED - 1);
        due(16, "c", x.image(0, 0, 0, 1000, 0), REFUSED - 1);
        due(16, "no map", x.image(1, 0, 0, 0, 0), REFUSED - 1);
        x.relation(0, 1, 0, 0);
        due(16, "not well", x.image(0, 1, 0, 0, 0), REFUSED - 4);
        due(16, "BAD ahead of STATE", x.image(0, 1000, 0, 0, 0), REFUSED - 1);
    }

    private static void part() {
        GroupsByRelations x = new GroupsByRelations();
        x.group(0, 2);
        x.relation(0, 0, 4, 0);
        ringOf(x, 1, 0);
        x.group(1, 2);
        x.relation(1, 0, 8, 0);
        x.map(0, 0, 1);
        x.entry(0, 0, 0, 6);
        x.entry(0, 1, 1, 4);
        due(17, "kernel: how many", x.part(0, 0, -1), 1);
        due(17, "kernel", x.part(0, 0, 0), 2);
        due(17, "kernel: no more", x.part(0, 0, 1), -3);
        due(17, "reaches: how many", x.part(0, 1, -1), 2);
        due(17, "reaches", x.part(0, 1, 0), 2);
        due(17, "reaches: endless last", x.part(0, 1, 1), 0);
        due(17, "leaves: how many", x.part(0, 2, -1), 2);
        due(17, "leaves 2", x.part(0, 2, 0), 2);
        due(17, "leaves 12", x.part(0, 2, 1), 12);
        due(17, "what 3", x.part(0, 3, -1), -1);
        due(17, "what -1", x.part(0, -1, -1), -1);
        due(17, "k -2", x.part(0, 0, -2), -1);
        due(17, "no map", x.part(1, 0, -1), -1);
        x.entry(0, 1, 1, 1);
        due(17, "not well", x.part(0, 0, -1), -4);
        due(17, "not well, far k", x.part(0, 0, 99), -4);
        due(17, "BAD ahead of STATE", x.part(0, 0, -2), -1);
        x.map(2, 0, 5);
        due(17, "to nothing: kernel is all", x.part(2, 0, 0), 4);
        due(17, "to nothing: kernel is all", x.part(2, 0, 1), 0);
        due(17, "to nothing: reaches", x.part(2, 1, -1), 0);
    }

    private static void whence() {
        GroupsByRelations x = new GroupsByRelations();
        ringOf(x, 0, 8);
        ringOf(x, 1, 4);
        mapOf(x, 0, 0, 1, 3);
        due(18, "whence 1: 3, less than 4", x.whence(0, 1, 9, 9, 0), 3);
        due(18, "whence 0", x.whence(0, 0, 0, 0, 0), 0);
        due(18, "whence -999", x.whence(0, -999, 0, 0, 0), 3);
        x.entry(0, 0, 0, 2);
        due(18, "whence 1: none", x.whence(0, 1, 0, 0, 0), REFUSED - 3);
        due(18, "whence 2: 1, less than 2", x.whence(0, 6, 0, 0, 0), 1);
        due(18, "a", x.whence(0, 1000, 0, 0, 0), REFUSED - 1);
        due(18, "b", x.whence(0, 0, 1000, 0, 0), REFUSED - 1);
        due(18, "c", x.whence(0, 0, 0, -1000, 0), REFUSED - 1);
        due(18, "k 1", x.whence(0, 0, 0, 0, 1), REFUSED - 1);
        due(18, "k -1", x.whence(0, 0, 0, 0, -1), REFUSED - 1);
        due(18, "no map", x.whence(5, 0, 0, 0, 0), REFUSED - 1);
        x.relation(0, 1, 0, 0);
        due(18, "not well", x.whence(0, 1, 0, 0, 0), REFUSED - 4);
        x.group(2, 3);
        x.group(3, 2);
        x.map(1, 2, 3);
        x.entry(1, 0, 0, 1);
        x.entry(1, 1, 0, 2);
        x.entry(1, 2, 1, 1);
        due(18, "kernel (2, -1, 0): place 0 is 0 or 1", x.whence(1, 7, -4, 0, 0), 1);
        due(18, "place 1 then", x.whence(1, 7, -4, 0, 1), 3);
        due(18, "place 2 then", x.whence(1, 7, -4, 0, 2), -4);
        due(18, "a place of the group it is from", x.whence(1, 0, 0, 0, 3), REFUSED - 1);
    }

    private static void exact() {
        GroupsByRelations x = new GroupsByRelations();
        ringOf(x, 0, 2);
        ringOf(x, 1, 4);
        mapOf(x, 0, 0, 1, 2);
        mapOf(x, 1, 1, 0, 1);
        due(19, "2 to 4 to 2", x.exact(0, 1), 1);
        due(19, "4 to 2 to 4", x.exact(1, 0), 0);
        x.entry(1, 0, 0, 0);
        due(19, "the kernel is all", x.exact(0, 1), 0);
        mapOf(x, 2, 1, 1, 2);
        due(19, "a map behind itself", x.exact(2, 2), 1);
        due(19, "not from the group that the first is to", x.exact(0, 0), -4);
        due(19, "no first", x.exact(5, 0), -1);
        due(19, "no second", x.exact(0, 8), -1);
        x.entry(0, 0, 0, 1);
        due(19, "the first is not well", x.exact(0, 1), -4);
        x.entry(0, 0, 0, 2);
        x.relation(1, 1, 0, 0);
        x.entry(1, 0, 0, 1);
        due(19, "the second is not well", x.exact(0, 1), -4);
        due(19, "BAD ahead of STATE", x.exact(1, 7), -1);
    }

    private static void feed() {
        GroupsByRelations x = new GroupsByRelations();
        due(20, "n 0", x.feed('a', 0), -1);
        due(20, "n 9", x.feed('a', 9), -1);
        due(20, "n -1", x.feed('a', -1), -1);
        for (int i = 1; i <= 12; i++) {
            due(20, "eight", x.feed(0x2020202020202020L, 8), 8 * i);
        }
        due(20, "more than 100", x.feed(0, 5), -2);
        due(20, "BAD ahead of FULL", x.feed(0, 9), -1);
        due(20, "nothing came", x.many(6), 96);
        due(20, "to 100", x.feed('a', 4), 100);
        due(20, "full", x.feed('a', 1), -2);
        due(20, "a, then bytes of 0: the fault is at 97", x.text(0), -197);
        ringOf(x, 0, 0);
        mapOf(x, 0, 0, 0, 3);
        due(20, "the lowest first", x.feed('2' | 'a' << 8, 2), 2);
        due(20, "2a", x.text(1), 1);
        due(20, "2a is 6", x.at(1, 0, 0), 1006);
        due(20, "a byte above 127", x.feed(-1L, 8), 8);
        due(20, "can't stand", x.text(1), -100);
    }

    private static GroupsByRelations threeMaps() {
        GroupsByRelations x = new GroupsByRelations();
        ringOf(x, 0, 0);
        ringOf(x, 1, 0);
        mapOf(x, 0, 0, 0, 3);
        mapOf(x, 1, 0, 1, 5);
        mapOf(x, 2, 1, 1, -7);
        return x;
    }

    private static void textAnswers() {
        GroupsByRelations x = threeMaps();
        String[] texts = {"a", "-a", "2a", "a+a", "a-a-a", "-a+a", "a.b", "2a.3b", "-2a.a", "a.(b.c)", "a.b-b.c+b",
            "(a)", "((((a))))", "2(a+2(a-3a))", "0a", "a . b", " a ", "-(-a)", "2(-a).b", "9a-9(a)", "b-3(a.b)", "a+a.a"};
        int[] due = {3, -3, 6, 6, -3, 0, 15, 90, -18, -105, 55,
            3, 3, -18, 0, 15, 3, 3, -30, 0, -40, 12};
        for (int i = 0; i < texts.length; i++) {
            int answer = textOf(x, 7, texts[i]);
            boolean isGreat = due[i] < -99 || due[i] > 99;
            due(21, "text " + texts[i], answer, isGreat ? -16 : 1);
            if (!isGreat) {
                due(21, "told by " + texts[i], x.at(7, 0, 0), 1000 + due[i]);
            }
        }
        due(21, "from", textOf(x, 7, "a.b") * 100 + x.mapIs(7, 0), 100);
        due(21, "to", x.mapIs(7, 1), 1);
        due(21, "a map by itself", textOf(x, 0, "a.a"), 1);
        due(21, "a map by itself", x.at(0, 0, 0), 1009);
        due(21, "undone", x.undo() >= 0 ? x.at(0, 0, 0) : -1, 1003);
        x.relation(1, 4, 0, 0);
        due(21, "rows are normal", textOf(x, 7, "a.b"), 1);
        due(21, "15 by 4", x.at(7, 0, 0), 1003);
        due(21, "below 0", textOf(x, 7, "-b") * 10000 + x.at(7, 0, 0), 11003);
        x.map(3, 0, 5);
        due(21, "to a group without generators", textOf(x, 7, "9d-d") * 10 + x.mapIs(7, 1), 15);
        x.map(4, 5, 0);
        due(21, "from a group without generators", textOf(x, 7, "d.e") * 10 + x.mapIs(7, 1), 10);
        due(21, "by way of nothing", x.at(7, 0, 0), 1000);
    }

    private static void textFaults() {
        GroupsByRelations x = threeMaps();
        String[] texts = {"", " ", "   ", "+a", "--a", "a b", "a+", "a+ ", "a.", "a+-a", "12a", "1 2a", "2", "2-a", "i",
            "A", "()", "(a", "(a ", "a)", "(a))", "(((((a)))))", "2(((( (a)))))", "a.-b", "a2", "a(b)", "a\t", "-",
            "(", "(-", "a+b)", "z", "((((a)))) (", "3+", "((((a))))+((((a))))+(((((a", "a..b"};
        int[] due = {0, 1, 3, 0, 1, 2, 2, 3, 2, 2, 1, 2, 1, 1, 0,
            0, 1, 2, 3, 1, 3, 4, 6, 2, 1, 1, 1, 1,
            1, 2, 3, 0, 10, 1, 24, 2};
        for (int i = 0; i < texts.length; i++) {
            due(21, "fault of '" + texts[i] + "'", textOf(x, 7, texts[i]), -100 - due[i]);
            due(21, "the tape is used up", x.many(6), 0);
            due(21, "no map has come", x.mapIs(7, 0), -1);
        }
        StringBuilder long100 = new StringBuilder("a");
        for (int i = 0; i < 49; i++) {
            long100.append("-a");
        }
        due(21, "100 bytes that go on", textOf(x, 7, long100 + "+"), -200);
        due(21, "99 bytes", textOf(x, 7, long100.toString()), -16);
    }

    private static void textOrderOfRefusals() {
        GroupsByRelations x = threeMaps();
        feedText(x, "a");
        due(21, "f 8", x.text(8), -1);
        due(21, "f -1", x.text(-1), -1);
        due(21, "the tape stays", x.many(6), 1);
        due(21, "then told", x.text(7), 1);
        due(21, "a fault ahead of no map", textOf(x, 7, "d+h+"), -104);
        due(21, "no map", textOf(x, 6, "a+d"), -300);
        due(21, "no map ahead of what does not fit", textOf(x, 6, "a+b+d"), -300);
        due(21, "no map behind what is too great", textOf(x, 6, "9(9(9(9a))).9(9(9(9a))).d"), -300);
        due(21, "does not fit: .", textOf(x, 6, "b.a"), -301);
        due(21, "does not fit: + to", textOf(x, 6, "a+b"), -301);
        due(21, "does not fit: - from", textOf(x, 6, "b-c"), -301);
        due(21, "does not fit in brackets", textOf(x, 6, "(a+b).c"), -301);
        due(21, "does not fit by 0", textOf(x, 6, "a+0b"), -301);
        due(21, "does not fit behind what is too great", textOf(x, 6, "9(9(9(9a))).9(9(9(9a)))+b"), -301);
        due(21, "fits", textOf(x, 6, "a.b.c+b"), -16);
        due(21, "no change by all these", x.many(5), 9);
        due(21, "no map came", x.mapIs(6, 0), -1);
    }

    private static void textNumbers() {
        GroupsByRelations x = new GroupsByRelations();
        ringOf(x, 0, 0);
        ringOf(x, 1, 0);
        ringOf(x, 2, 7);
        mapOf(x, 0, 0, 0, 8);
        mapOf(x, 1, 0, 1, 5);
        mapOf(x, 2, 0, 2, 1);
        mapOf(x, 3, 0, 0, 5);
        due(21, "100 by a sum, which is 115 on the way", textOf(x, 7, "9b+9b+b+4b-4b+b"), -16);
        due(21, "95 by a sum, which is 115 on the way", textOf(x, 7, "9b+9b+b+4b-4b") * 10000 + x.at(7, 0, 0), 11095);
        mapOf(x, 4, 0, 0, 9);
        due(21, "9 * 9 + 9 + 9", textOf(x, 7, "e.e+2e") * 10000 + x.at(7, 0, 0), 11099);
        due(21, "100", textOf(x, 6, "4(d.d)"), -16);
        due(21, "-99", textOf(x, 7, "-e.e-2e") * 10000 + x.at(7, 0, 0), 10901);
        due(21, "-100", textOf(x, 6, "-4(d.d)"), -16);
        // 10 to the ninth is (8 * 5 * 5 * 5) to the third
        String thousand = "a.d.d.d";
        String most = thousand + "." + thousand + "." + thousand;
        due(21, "1000000000, then normal: 6", textOf(x, 7, most + ".c"), 1);
        due(21, "1000000000 by 7", x.at(7, 0, 0), 1006);
        due(21, "1000000001", textOf(x, 7, "(" + most + "+(a-a+d-4(a-a)-d)).c"), 1);
        mapOf(x, 5, 0, 0, 1);
        due(21, "one more", textOf(x, 7, "(" + most + "+f).c"), -16);
        due(21, "one more and one less", textOf(x, 7, "(" + most + "+f-f).c"), -16);
        due(21, "one less and one more", textOf(x, 7, "(-f+" + most + "+f).c"), 1);
        due(21, "taken away", textOf(x, 7, "-" + most + ".c"), 1);
        due(21, "-1000000000 by 7", x.at(7, 0, 0), 1001);
        due(21, "one less yet", textOf(x, 7, "(-" + most + "-f).c"), -16);
        due(21, "by a number", textOf(x, 7, "2(" + most + ").c"), -16);
        due(21, "0 times what is too great", textOf(x, 7, "0(2(" + most + ").c)"), -16);
        due(21, "0 times what is just not", textOf(x, 7, "0(" + most + ").c") * 10000 + x.at(7, 0, 0), 11000);
    }

    // ------------------------------------------------------------------ diagrams, moves

    private static void diagramRefusals() {
        GroupsByRelations x = twoRows();
        due(22, "right", x.diagram(0, 0), 1);
        due(22, "sheet 4", x.diagram(4, 0), -1);
        due(22, "sheet -1", x.diagram(-1, 0), -1);
        due(22, "missing", x.diagram(1, -1), -11);
        x.sheet(1, 1, 9);
        due(22, "ints", x.diagram(1, -1), -13);
        x.sheet(1, 2, 9);
        due(22, "longs", x.diagram(1, 0), -13);
        due(22, "place -1", x.diagram(0, -1), -12);
        due(22, "place 1 of 7", x.diagram(0, 1), -12);
        due(22, "far place", x.diagram(0, Integer.MAX_VALUE), -12);
        bytes(x, 2, 9, 9, 0, 1, 2, 3, 4, 5, 6);
        due(22, "from place 2", x.diagram(2, 2), 1);
        due(22, "no map 9", x.diagram(2, 0), -3);
        bytes(x, 2, 0, 1, 2, 3, 4, 5, -1);
        due(22, "no map -1", x.diagram(2, 0), -3);
        bytes(x, 2, 0, 1, 2, 3, 4, 5, 7);
        due(22, "no map 7 yet", x.diagram(2, 0), -3);
        for (int at = 0; at < 7; at++) {
            int[] maps = {0, 1, 2, 3, 4, 5, 6};
            maps[at] = (at + 1) % 7;
            bytes(x, 2, maps);
            due(22, "not from, to as told", x.diagram(2, 0), -3);
        }
        x.sheet(2, 0, 6);
        due(22, "six bytes", x.diagram(2, 0), -12);
    }

    private static void diagramRight() {
        int[][] spoilt = {{0, 0}, {1, 0}, {2, 4}, {3, 0}, {4, 1}, {5, 1}, {6, 1}};
        for (int[] entry : spoilt) {
            GroupsByRelations x = twoRows();
            x.entry(entry[0], 0, 0, entry[1]);
            due(22, "spoilt map " + entry[0], x.diagram(0, 0), 0);
            x.undo();
            due(22, "mended map " + entry[0], x.diagram(0, 0), 1);
        }
        GroupsByRelations x = twoRows();
        x.entry(4, 0, 0, -2);
        due(22, "-2 is one with 2 in 4", x.diagram(0, 0), 1);
        x.relation(0, 3, 0, 0);
        due(22, "a map is not well", x.diagram(0, 0), 0);
        GroupsByRelations y = new GroupsByRelations();
        ringOf(y, 0, 0);
        ringOf(y, 1, 2);
        mapOf(y, 0, 0, 0, 2);
        mapOf(y, 1, 0, 1, 1);
        mapOf(y, 2, 0, 0, 1);
        mapOf(y, 3, 1, 1, 1);
        bytes(y, 0, 0, 1, 0, 1, 2, 2, 3);
        due(22, "the same groups and maps twice", y.diagram(0, 0), 1);
        y.map(4, 0, 0);
        y.map(5, 1, 0);
        y.map(6, 0, 1);
        bytes(y, 0, 4, 2, 0, 1, 4, 4, 6);
        due(22, "0, then one to one", y.diagram(0, 0), 1);
        mapOf(y, 2, 0, 0, 2);
        due(22, "the upper second is not onto", y.diagram(0, 0), 0);
        bytes(y, 0, 0, 1, 4, 4, 4, 4, 5);
        due(22, "0, then 0: not exact", y.diagram(0, 0), 0);
        mapOf(y, 2, 0, 0, 1);
        y.map(7, 1, 0);
        bytes(y, 0, 0, 1, 7, 2, 6, 4, 7);
        due(22, "the lower first is not one to one", y.diagram(0, 0), 0);
    }

    private static void connected() {
        GroupsByRelations x = twoRows();
        due(23, "1", x.connected(0, 0, 1, 0, 0, 0), 1);
        due(23, "2 is nothing", x.connected(0, 0, 2, 0, 0, 0), 0);
        due(23, "-999", x.connected(0, 0, -999, 999, 999, 0), 1);
        due(23, "a", x.connected(0, 0, 1000, 0, 0, 0), REFUSED - 1);
        due(23, "b", x.connected(0, 0, 0, 1000, 0, 0), REFUSED - 1);
        due(23, "c", x.connected(0, 0, 0, 0, -1000, 0), REFUSED - 1);
        due(23, "k 1", x.connected(0, 0, 0, 0, 0, 1), REFUSED - 1);
        due(23, "k -1", x.connected(0, 0, 0, 0, 0, -1), REFUSED - 1);
        due(23, "sheet 4", x.connected(4, 0, 0, 0, 0, 0), REFUSED - 1);
        due(23, "missing", x.connected(1, 0, 0, 0, 0, 0), REFUSED - 11);
        x.sheet(1, 1, 9);
        due(23, "ints", x.connected(1, 0, 0, 0, 0, 0), REFUSED - 13);
        due(23, "outside ahead of BAD", x.connected(0, 1, 1000, 0, 0, 0), REFUSED - 12);
        bytes(x, 2, 0, 1, 2, 3, 4, 5, 9);
        due(23, "no map ahead of BAD", x.connected(2, 0, 1000, 0, 0, 0), REFUSED - 3);
        x.entry(6, 0, 0, 1);
        due(23, "STATE ahead of BAD", x.connected(0, 0, 1000, 0, 0, 0), REFUSED - 4);
        x.entry(4, 0, 0, 1);
        x.entry(5, 0, 0, 1);
        due(23, "right by ones", x.diagram(0, 0), 1);
        due(23, "not of the kernel", x.connected(0, 0, 1, 0, 0, 0), REFUSED - 3);
        due(23, "BAD ahead of NONE", x.connected(0, 0, 1, 0, 0, 9), REFUSED - 1);
        due(23, "nothing is of it", x.connected(0, 0, 6, 0, 0, 0), 0);
        GroupsByRelations y = new GroupsByRelations();
        ringOf(y, 0, 0);
        ringOf(y, 1, 3);
        mapOf(y, 0, 0, 0, 3);
        mapOf(y, 1, 0, 1, 1);
        mapOf(y, 2, 0, 0, 6);
        mapOf(y, 3, 1, 1, 0);
        bytes(y, 0, 0, 1, 0, 1, 2, 2, 3);
        due(23, "endless rows", y.diagram(0, 0), 1);
        due(23, "1: 1, then 6, whence 2", y.connected(0, 0, 1, 0, 0, 0), 2);
        due(23, "2: 4 by 6", y.connected(0, 0, 2, 0, 0, 0), 4);
        due(23, "5 is 2", y.connected(0, 0, 5, 0, 0, 0), 4);
    }

    private static void move() {
        GroupsByRelations x = new GroupsByRelations();
        due(24, "place 2", x.move(0, 2), 1);
        due(24, "place 3", x.move(0, 3), -1);
        due(24, "place -1", x.move(0, -1), -1);
        due(24, "9 times", x.move(1, 9), 2);
        due(24, "-9 times", x.move(1, -9), 3);
        due(24, "10 times", x.move(1, 10), -1);
        due(24, "-10 times", x.move(1, -10), -1);
        due(24, "no map", x.move(2, 0), -1);
        due(24, "no map 8", x.move(2, 8), -1);
        due(24, "no map -1", x.move(2, -1), -1);
        x.map(0, 0, 0);
        due(24, "a map", x.move(2, 0), 4);
        due(24, "normal, any v", x.move(3, Integer.MIN_VALUE), 5);
        due(24, "what 4", x.move(4, 0), -1);
        due(24, "what -1", x.move(-1, 0), -1);
        for (int i = 6; i <= 12; i++) {
            due(24, "more", x.move(1, 0), i);
        }
        due(24, "full", x.move(1, 0), -2);
        due(24, "BAD ahead of FULL", x.move(1, 10), -1);
        due(24, "many(4)", x.many(4), 12);
        due(24, "changes", x.many(5), 13);
    }

    private static void stop() {
        GroupsByRelations x = new GroupsByRelations();
        ringOf(x, 0, 0);
        mapOf(x, 0, 0, 0, 2);
        x.move(0, 0);
        x.move(2, 0);
        x.entry(0, 0, 0, 3);
        x.move(1, 5);
        x.move(2, 0);
        x.move(0, 0);
        due(25, "((1 + 1) * 2 * 5) * 3 + 1", x.run(0, 1, 0, 0, 0), 61);
        due(25, "stop(1)", x.stop(1), 4);
        due(25, "maps stay with their tables", x.run(0, 1, 0, 0, 0), 13);
        due(25, "stop(0)", x.stop(0), 2);
        due(25, "both maps", x.run(0, 1, 0, 0, 0), 6);
        due(25, "none of this sort", x.stop(3), 2);
        due(25, "is a change", x.many(5), 12);
        due(25, "stop(2)", x.stop(2), 0);
        due(25, "what 4", x.stop(4), -1);
        due(25, "what -1", x.stop(-1), -1);
        due(25, "undone", x.undo() * 10 + x.many(4), 122);
        due(25, "undone with tables", x.run(0, 1, 0, 0, 0), 6);
        x.undo();
        x.undo();
        x.undo();
        due(25, "all undone", x.run(0, 1, 0, 0, 0), 61);
    }

    private static void run() {
        GroupsByRelations x = new GroupsByRelations();
        x.group(0, 2);
        x.group(1, 3);
        due(26, "no moves", x.run(0, 7, -8, 9, 1), -8);
        due(26, "no such place", x.run(0, 7, -8, 9, 2), 0);
        due(26, "the group", x.run(1, 7, -8, 9, 3), 1);
        due(26, "k 4", x.run(0, 0, 0, 0, 4), REFUSED - 1);
        due(26, "k -1", x.run(0, 0, 0, 0, -1), REFUSED - 1);
        due(26, "g 6", x.run(6, 0, 0, 0, 0), REFUSED - 1);
        due(26, "a", x.run(0, 1000, 0, 0, 0), REFUSED - 1);
        due(26, "b", x.run(0, 0, -1000, 0, 0), REFUSED - 1);
        due(26, "c", x.run(0, 0, 0, 1000, 0), REFUSED - 1);
        x.move(0, 2);
        due(26, "no such place to be more", x.run(0, 1, 1, 1, 2), 0);
        due(26, "such a place", x.run(1, 1, 1, 1, 2), 2);
        x.map(0, 0, 1);
        x.entry(0, 0, 2, 4);
        x.entry(0, 1, 0, -1);
        x.move(2, 0);
        x.move(0, 2);
        due(26, "by a map", x.run(0, 5, 6, 7, 2), 21);
        due(26, "by a map, place 0", x.run(0, 5, 6, 7, 0), -6);
        due(26, "the group then", x.run(0, 5, 6, 7, 3), 1);
        x.move(3, 0);
        due(26, "normal without relations", x.run(0, 5, 6, 7, 0), -6);
        x.relation(1, 4, 0, 1);
        due(26, "groups are as they are", x.run(0, 5, 6, 7, 0), 2);
        due(26, "and place 2", x.run(0, 5, 6, 7, 2), 23);
        for (int i = 0; i < 8; i++) {
            x.move(1, 9);
        }
        due(26, "23 times 9 to the eighth", x.run(0, 5, 6, 7, 2), 990074583);
        due(26, "too great", x.run(0, 6, 6, 7, 0), REFUSED - 16);
        due(26, "too great for any k", x.run(0, 6, 6, 7, 3), REFUSED - 16);
        x.stop(0);
        x.stop(3);
        due(26, "5 times 9 to the eighth", x.run(0, 0, -5, 0, 0), 215233605);
    }

    private static void runBreaksOff() {
        GroupsByRelations x = new GroupsByRelations();
        ringOf(x, 0, 0);
        ringOf(x, 1, 0);
        mapOf(x, 0, 0, 1, 2);
        x.move(2, 0);
        due(26, "goes", x.run(0, 3, 0, 0, 0), 6);
        due(26, "not from this group", x.run(1, 3, 0, 0, 0), REFUSED - 4);
        due(26, "BAD ahead of STATE", x.run(1, 3, 0, 0, 4), REFUSED - 1);
        x.map(0, 1, 1);
        due(26, "the map as it was", x.run(0, 3, 0, 0, 0), 6);
        x.group(0, 1);
        due(26, "as many generators", x.run(0, 3, 0, 0, 0), 6);
        x.group(0, 2);
        due(26, "the first has others", x.run(0, 3, 0, 0, 0), REFUSED - 4);
        x.undo();
        x.group(1, 2);
        due(26, "the second has others", x.run(0, 3, 0, 0, 0), REFUSED - 4);
        x.group(1, 1);
        due(26, "as many again", x.run(0, 3, 0, 0, 3), 1);
        x.move(2, 0);
        due(26, "no map to move by", x.many(4), 1);
        mapOf(x, 1, 0, 0, 9);
        x.stop(2);
        for (int i = 0; i < 10; i++) {
            x.move(2, 1);
        }
        mapOf(x, 2, 1, 1, 1);
        x.move(2, 2);
        due(26, "too great ahead of breaking off", x.run(0, 1, 0, 0, 0), REFUSED - 16);
        due(26, "not too great, breaks off", x.run(0, 0, 0, 0, 0), REFUSED - 4);
    }

    private static void undo() {
        GroupsByRelations x = new GroupsByRelations();
        for (int i = 0; i < 25; i++) {
            x.group(0, i % 4);
        }
        due(27, "20 at the most", x.many(5), 20);
        for (int i = 19; i >= 0; i--) {
            due(27, "undo()", x.undo(), i);
            due(27, "as it was", x.groupIs(0, 0), (i + 4) % 4);
        }
        due(27, "no more", x.undo(), -3);
        due(27, "the oldest stay", x.groupIs(0, 0), 0);
        GroupsByRelations y = twoRows();
        y.feed('a', 1);
        y.lay(0, 0, 3, 0, 0);
        y.sheet(3, 1, 4);
        int before = y.many(5);
        y.normal(0, 1, 1, 1, 0);
        y.relation(0, 99, 0, 0);
        y.entry(0, 0, 0, 99);
        y.keep();
        y.diagram(0, 0);
        y.feed('+', 1);
        y.text(0);
        due(27, "what is no change", y.many(5), before);
        y.undo();
        due(27, "shelves stay", y.lies(0, 0), 3);
        due(27, "sheets stay", y.item(3, 1, 3), 0);
        due(27, "the tape stays used up", y.many(6), 0);
        due(27, "an entry, a map, ..", y.undo() >= 0 ? y.mapIs(6, 0) : 0, -1);
        feedText(y, "a");
        y.text(7);
        due(27, "a map by a text", y.mapIs(7, 0), 0);
        y.undo();
        due(27, "undone", y.mapIs(7, 0), -1);
        y.move(0, 0);
        y.stop(0);
        y.undo();
        due(27, "a move that went", y.many(4), 1);
        y.undo();
        due(27, "a move that came", y.many(4), 0);
    }

    // ------------------------------------------------------------------ the host

    private static void sheet() {
        GroupsByRelations x = new GroupsByRelations();
        due(28, "40", x.sheet(3, 2, 40), 1);
        due(28, "41", x.sheet(3, 2, 41), -1);
        due(28, "-1", x.sheet(3, 2, -1), -14);
        due(28, "sheet 4", x.sheet(4, 2, -1), -1);
        due(28, "sheet -1", x.sheet(-1, 2, 0), -1);
        due(28, "sort 3", x.sheet(0, 3, -1), -1);
        due(28, "sort -2", x.sheet(0, -2, 0), -1);
        due(28, "it stays", x.put(3, 39, 5), 1);
        due(28, "anew", x.sheet(3, 2, 40), 1);
        due(28, "all 0", x.item(3, 2, 39), 0);
        due(28, "of no items", x.sheet(3, 0, 0), 1);
        due(28, "no item 0", x.item(3, 0, 0), -12);
        due(28, "missing, any n", x.sheet(3, -1, 99), 1);
        due(28, "missing", x.item(3, 0, 0), -11);
        due(28, "missing twice", x.sheet(3, -1, Integer.MIN_VALUE), 1);
    }

    private static void putAndItem() {
        GroupsByRelations x = new GroupsByRelations();
        x.sheet(0, 0, 3);
        x.sheet(1, 1, 3);
        x.sheet(2, 2, 3);
        due(29, "bytes", x.put(0, 2, 0x1234567890L + 0x6fL), 1);
        due(30, "a byte, below 0", x.item(0, 0, 2), -1);
        due(29, "128", x.put(0, 0, 128), 1);
        due(30, "-128", x.item(0, 0, 0), -128);
        due(29, "ints", x.put(1, 0, 0x1FFFFFFFEL), 1);
        due(30, "an int", x.item(1, 1, 0), -2);
        x.group(0, 1);
        due(29, "an int is narrowed as it is put", x.put(1, 0, 0x100000001L) * 10 + x.span(0, 1, 0, 1), 10);
        x.put(1, 0, 0x1FFFFFFFEL);
        due(29, "longs", x.put(2, 1, 0x580000001L), 1);
        due(30, "lowest 32 bits", x.item(2, 2, 1), Integer.MIN_VALUE + 1);
        due(29, "sheet 4", x.put(4, 0, 0), -1);
        due(29, "sheet -1", x.put(-1, 0, 0), -1);
        due(29, "missing ahead of outside", x.put(3, -1, 0), -11);
        due(29, "place 3", x.put(0, 3, 0), -12);
        due(29, "place -1", x.put(0, -1, 0), -12);
        due(30, "sheet 4", x.item(4, 0, 0), -1);
        due(30, "sort 3", x.item(0, 3, 0), -1);
        due(30, "sort -1", x.item(0, -1, 0), -1);
        due(30, "sort -1 of a missing one", x.item(3, -1, 0), -1);
        due(30, "another sort ahead of outside", x.item(0, 1, 9), -13);
        due(30, "ints as longs", x.item(1, 2, 0), -13);
        due(30, "missing", x.item(3, 0, 9), -11);
        due(30, "place 3", x.item(0, 0, 3), -12);
        due(30, "place -1", x.item(0, 0, -1), -12);
        due(30, "far place", x.item(0, 0, Integer.MAX_VALUE), -12);
    }

    private static void lay() {
        GroupsByRelations x = new GroupsByRelations();
        x.group(0, 2);
        due(31, "lay(3, 0, ..)", x.lay(3, 0, 999, -999, 5), 1);
        due(31, "place 0", x.lies(3, 0), 999);
        due(31, "place 1", x.lies(3, 1), -999);
        due(31, "what does not count is 0", x.lies(3, 2), 0);
        due(31, "shelf 4", x.lay(4, 0, 0, 0, 0), -1);
        due(31, "shelf -1", x.lay(-1, 0, 0, 0, 0), -1);
        due(31, "group 6", x.lay(0, 6, 0, 0, 0), -1);
        due(31, "a", x.lay(3, 0, -1000, 0, 0), -1);
        due(31, "b", x.lay(3, 0, 0, 1000, 0), -1);
        due(31, "c", x.lay(3, 0, 0, 0, 1000), -1);
        due(31, "it stays", x.lies(3, 0), 999);
        due(31, "not normal", x.relation(0, 5, 0, 0) * 1000 + x.lies(3, 0), 1999);
        due(31, "without generators", x.lay(0, 5, 1, 2, 3), 1);
        due(31, "all 0", x.lies(0, 0) + x.lies(0, 1) + x.lies(0, 2), 0);
        x.group(0, 3);
        due(31, "a group made anew changes no shelf", x.lies(3, 1), -999);
    }

    private static void hold() {
        GroupsByRelations x = new GroupsByRelations();
        x.sheet(0, 1, 7);
        due(32, "hold(0, 0)", x.hold(0, 0), 1);
        due(32, "seven ints", x.taken(0, 11), 7);
        x.sheet(0, 0, 3);
        due(32, "the row that it was", x.taken(0, 11), 7);
        x.sheet(0, -1, 0);
        due(32, "the row that it was", x.taken(0, 11), 7);
        due(32, "missing", x.hold(0, 0), 1);
        due(32, "nothing", x.taken(0, 11), -11);
        x.lay(1, 0, 0, 0, 0);
        due(32, "hold(1, -1)", x.hold(1, -1), 1);
        due(32, "nothing", x.lies(1, 0), REFUSED - 11);
        due(32, "shelf 4", x.hold(4, 0), -1);
        due(32, "shelf -1", x.hold(-1, 0), -1);
        due(32, "sheet 4", x.hold(0, 4), -1);
        due(32, "sheet -2", x.hold(0, -2), -1);
        x.sheet(2, 2, 0);
        x.hold(2, 2);
        due(32, "an empty row is a row", x.taken(2, 12), 0);
        x.lay(2, 0, 0, 0, 0);
        due(32, "an element in its place", x.taken(2, 12), -13);
        due(32, "an element in its place", x.taken(2, 0), 1);
    }

    private static void add() {
        GroupsByRelations x = new GroupsByRelations();
        x.group(0, 3);
        x.group(1, 3);
        x.lay(0, 0, 500, -1, 2);
        x.lay(1, 0, 999, -999, 3);
        x.lay(2, 1, 1, 1, 1);
        due(33, "add(0, 1)", x.add(0, 1), 1);
        due(33, "place 0", x.lies(0, 0), 1499);
        due(33, "place 1", x.lies(0, 1), -1000);
        due(33, "place 2", x.lies(0, 2), 5);
        due(33, "the other stays", x.lies(1, 0), 999);
        due(33, "unlike groups", x.add(0, 2), -13);
        due(33, "nothing", x.add(0, 3), -11);
        due(33, "to nothing", x.add(3, 0), -11);
        due(33, "shelf 4", x.add(4, 0), -1);
        due(33, "other -1", x.add(0, -1), -1);
        x.sheet(0, 0, 1);
        x.hold(3, 0);
        due(33, "a row", x.add(0, 3), -13);
        due(33, "to a row", x.add(3, 0), -13);
        due(33, "a row to a row", x.add(3, 3), -13);
        x.hold(2, -1);
        due(33, "nothing ahead of a row", x.add(3, 2), -11);
        due(33, "nothing ahead of a row", x.add(2, 3), -11);
        x.lay(0, 0, 0, -999, 1);
        int times = 0;
        while (x.add(0, 0) == 1) {
            times++;
        }
        due(33, "doubled to 1000000000 at the most", times, 19);
        due(33, "refused: -16", x.add(0, 0), -16);
        due(33, "it stays", x.lies(0, 1), -999L * 524288);
        due(33, "it stays", x.lies(0, 2), 524288);
        x.group(0, 1);
        x.lay(1, 0, 7, 0, 0);
        due(33, "number by number, whatever the group has", x.add(1, 0), 1);
        due(33, "all three", x.lies(1, 2), 524288);
    }

    private static void rest() {
        GroupsByRelations x = new GroupsByRelations();
        x.group(0, 3);
        x.relation(0, 7, 0, 1);
        x.lay(0, 0, -1, 5, 10);
        due(34, "rest(0)", x.rest(0), 1);
        due(34, "place 0", x.lies(0, 0), 6);
        due(34, "place 1", x.lies(0, 1), 5);
        due(34, "place 2", x.lies(0, 2), 11);
        x.group(0, 1);
        x.relation(0, 4, 0, 0);
        due(34, "by the group as it is", x.rest(0), 1);
        due(34, "place 0", x.lies(0, 0), 2);
        due(34, "what it has not stays", x.lies(0, 2), 11);
        due(34, "shelf 4", x.rest(4), -1);
        due(34, "shelf -1", x.rest(-1), -1);
        due(34, "nothing", x.rest(1), -11);
        x.sheet(0, 0, 1);
        x.hold(1, 0);
        due(34, "a row", x.rest(1), -13);
        x.group(1, 2);
        x.relation(1, 1, 9, 0);
        x.lay(2, 1, 999, 0, 0);
        for (int i = 0; i < 17; i++) {
            x.add(2, 2);
        }
        due(34, "9 * 130940928 is too great", x.rest(2), -16);
        due(34, "it stays", x.lies(2, 0), 999L * 131072);
        x.lay(3, 1, 998, 0, 0);
        x.rest(3);
        due(34, "-8982", x.lies(3, 1), -8982);
    }

    private static void lies() {
        GroupsByRelations x = new GroupsByRelations();
        x.group(4, 2);
        x.lay(1, 4, -5, 6, 7);
        due(35, "place 0", x.lies(1, 0), -5);
        due(35, "place 1", x.lies(1, 1), 6);
        due(35, "place 2", x.lies(1, 2), 0);
        due(35, "its group", x.lies(1, 3), 4);
        due(35, "k 4", x.lies(1, 4), REFUSED - 1);
        due(35, "k -1", x.lies(1, -1), REFUSED - 1);
        due(35, "shelf 4", x.lies(4, 0), REFUSED - 1);
        due(35, "shelf -1", x.lies(-1, 0), REFUSED - 1);
        due(35, "nothing", x.lies(0, 3), REFUSED - 11);
        due(35, "BAD ahead of nothing", x.lies(0, 4), REFUSED - 1);
        x.sheet(0, 2, 2);
        x.hold(0, 0);
        due(35, "a row", x.lies(0, 3), REFUSED - 13);
    }

    private static void taken() {
        GroupsByRelations x = new GroupsByRelations();
        x.lay(0, 5, 0, 0, 0);
        due(36, "for its group", x.taken(0, 5), 1);
        due(36, "for another", x.taken(0, 4), -13);
        due(36, "for bytes", x.taken(0, 10), -13);
        due(36, "for longs", x.taken(0, 12), -13);
        for (int as : new int[] {-1, 6, 9, 13, Integer.MIN_VALUE}) {
            due(36, "as what there is not", x.taken(0, as), -1);
        }
        due(36, "shelf 4", x.taken(4, 0), -1);
        due(36, "shelf -1", x.taken(-1, 0), -1);
        due(36, "nothing", x.taken(1, 0), -11);
        due(36, "nothing, for ints", x.taken(1, 11), -11);
        due(36, "BAD ahead of nothing", x.taken(1, 7), -1);
        for (int sort = 0; sort < 3; sort++) {
            x.sheet(0, sort, 5 + sort);
            x.hold(2, 0);
            for (int as = 10; as <= 12; as++) {
                due(36, "a row", x.taken(2, as), as == 10 + sort ? 5 + sort : -13);
            }
            due(36, "a row for an element", x.taken(2, 0), -13);
        }
    }

    private static void many() {
        GroupsByRelations x = twoRows();
        due(37, "generators", x.many(0), 6);
        due(37, "relations", x.many(1), 6);
        due(37, "maps", x.many(2), 7);
        due(37, "well", x.many(3), 127);
        due(37, "moves", x.many(4), 0);
        due(37, "changes", x.many(5), 20);
        due(37, "bytes", x.many(6), 0);
        x.entry(3, 0, 0, 1);
        x.relation(5, 3, 0, 0);
        due(37, "well by 1", x.many(3), 127);
        x.relation(4, 3, 0, 0);
        due(37, "not well from 4 on", x.many(3), 127);
        x.relation(1, 3, 0, 0);
        due(37, "relations", x.many(1), 9);
        due(37, "map 1 is not well then", x.many(3), 125);
        x.map(7, 0, 0);
        due(37, "map 7", x.many(3), 253);
        x.move(0, 0);
        due(37, "moves", x.many(4), 1);
        x.feed(0, 7);
        due(37, "bytes", x.many(6), 7);
        x.group(1, 3);
        due(37, "generators", x.many(0), 8);
        due(37, "maps", x.many(2), 5);
        due(37, "set", x.many(3), 0xDC);
        due(37, "what 7", x.many(7), -1);
        due(37, "what -1", x.many(-1), -1);
    }

    private static void keepAndAgain() {
        GroupsByRelations x = twoRows();
        due(39, "nothing is kept", x.again(), -3);
        due(39, "nothing changed", x.many(5), 20);
        x.move(2, 0);
        due(38, "keep()", x.keep(), 1);
        x.entry(0, 0, 0, 4);
        x.group(2, 3);
        x.stop(2);
        x.map(7, 0, 0);
        x.lay(0, 0, 3, 0, 0);
        x.feed('a', 1);
        due(39, "again()", x.again(), 7);
        due(39, "tables", x.at(0, 0, 0), 1002);
        due(39, "groups", x.groupIs(2, 0), 1);
        due(39, "relations", x.groupIs(2, 1), 1);
        due(39, "moves", x.run(0, 1, 0, 0, 3), 1);
        due(39, "maps", x.mapIs(7, 0), -1);
        due(39, "no change can be undone", x.undo(), -3);
        due(39, "shelves stay", x.lies(0, 0), 3);
        due(39, "the tape stays", x.many(6), 1);
        x.group(0, 0);
        x.group(1, 0);
        due(39, "what was kept stays", x.again(), 7);
        x.entry(0, 0, 0, 6);
        due(38, "kept latest", x.keep(), 1);
        x.entry(0, 0, 0, 2);
        due(38, "keep() is no change", x.many(5), 2);
        due(39, "the latest", x.again() * 10000 + x.at(0, 0, 0), 71006);
        x.entry(0, 0, 0, 1);
        due(39, "changes count anew", x.undo(), 0);
        due(39, "undone", x.at(0, 0, 0), 1006);
    }
}
