import java.io.IOException;
import java.util.ArrayList;
import java.util.List;

/**
 * Each refusal of each call, just outside what is told and far outside; of several the first named; and none of them
 * changes anything: what the object answers behind it is what a twin answers that was not asked.
 */
public final class RefusalTest {
    /** A state in which nothing is as at first; 0 to 6 are MAPS, of which only 2 is not WELL, 7 is none. */
    private static final String RICH = "group 0 2; relation 0 6 0 0; relation 0 0 4 0; group 1 1; relation 1 8 0 0; "
        + "group 2 3; relation 2 2 0 0; relation 2 0 3 0; relation 2 0 0 5; relation 2 2 3 5; group 4 1; group 5 2; "
        + "map 0 1 1; entry 0 0 0 2; map 1 0 1; entry 1 0 0 4; entry 1 1 0 2; map 2 1 0; entry 2 0 0 1; entry 2 0 1 1; keep; "
        + "map 3 4 5; entry 3 0 0 1; entry 3 0 1 2; map 4 5 4; entry 4 0 0 2; entry 4 1 0 -1; map 5 5 5; map 6 4 4; move 0 0; "
        + "move 1 -2; move 2 3; move 3 5; fill 0 0 3 4 3 4 6 5 6 9 -1 7; fill 1 1 99 -99 0 99 -99 7 100; fill 2 2 5 6 7; "
        + "lay 0 0 7 -5 3; lay 1 4 999 0 0; hold 2 1;";

    private static int refusals = 0;

    public static void main(String[] args) throws IOException {
        Calls.sentence("Answers below 0, where not told otherwise, are refusals; such a call changes nothing");
        groups();
        groupsByTwo();
        maps();
        mapsByElements();
        texts();
        diagrams();
        moves();
        sheets();
        shelves();
        kept();
        longRefusals();
        System.out.println(refusals + " refusals");
        Calls.end();
    }

    // ------------------------------------------------------------------ helpers

    /** Each call is refused so, in the rich state, by a BAD thing or number; nothing changes by it. */
    private static void bad(String... calls) {
        refused("BAD", calls);
    }

    private static void refused(String as, String... calls) {
        refusedBehind("", as, calls);
    }

    private static void refusedBehind(String prepared, String as, String... calls) {
        List<Long> due = seen(Calls.play(RICH + "tape ' a'").then(prepared));
        for (String call : calls) {
            refusals++;
            Calls asked = Calls.play(RICH + "tape ' a'").then(prepared).then(call + " = " + as);
            same(prepared + " " + call, seen(asked), due);
        }
    }

    private static void same(String call, List<Long> got, List<Long> due) {
        for (int i = 0; i < due.size(); i++) {
            if (!got.get(i).equals(due.get(i))) {
                Calls.due("what is seen, number " + i + ", behind " + call, got.get(i), due.get(i));
                return;
            }
        }
        Calls.due("how much is seen behind " + call, got.size(), due.size());
    }

    /** What is answered of all things; then what was changed is undone, and what is kept comes again. */
    private static List<Long> seen(Calls calls) {
        GroupsByRelations x = calls.x;
        List<Long> seen = new ArrayList<>();
        seeGroupsAndMaps(x, seen);
        seeHost(x, seen);
        seen.add((long) x.text(7));
        seen.add((long) x.mapIs(7, 0));
        seen.add((long) x.at(7, 0, 0));
        for (int i = 0; i < 8; i++) {
            seen.add((long) x.undo());
            for (int what = 0; what < 5; what += 2) {
                seen.add((long) x.many(what));
            }
        }
        seen.add((long) x.again());
        for (int what = 0; what < 6; what++) {
            seen.add((long) x.many(what));
        }
        return seen;
    }

    private static void seeGroupsAndMaps(GroupsByRelations x, List<Long> seen) {
        for (int g = 0; g < 6; g++) {
            seen.add((long) x.groupIs(g, 1));
            for (int k = 0; k < 3; k++) {
                seen.add((long) x.step(g, k));
            }
            seen.add(x.run(g, 7, -5, 11, 0));
        }
        for (int what = 0; what <= 6; what++) {
            seen.add((long) x.many(what));
        }
        for (int k = 1; k <= 3; k++) {
            seen.add(x.run(4, 7, -5, 11, k));
        }
        for (int f = 0; f < 8; f++) {
            seen.add((long) x.mapIs(f, 0));
            seen.add((long) x.mapIs(f, 1));
            for (int cell = 0; cell < 4; cell++) {
                seen.add((long) x.at(f, cell / 2, cell % 2));
            }
        }
    }

    private static void seeHost(GroupsByRelations x, List<Long> seen) {
        for (int sheet = 0; sheet < 4; sheet++) {
            for (int i = 0; i <= 9; i++) {
                seen.add((long) x.item(sheet, sheet % 3, i));
            }
        }
        for (int shelf = 0; shelf < 4; shelf++) {
            for (int k = 0; k <= 3; k++) {
                seen.add(x.lies(shelf, k));
            }
            for (int as = 10; as <= 12; as++) {
                seen.add((long) x.taken(shelf, as));
            }
        }
    }

    /** The calls that a call becomes by putting each of these words for the sign #. */
    private static String[] each(String call, String... words) {
        String[] calls = new String[words.length];
        for (int i = 0; i < words.length; i++) {
            calls[i] = call.replace("#", words[i]);
        }
        return calls;
    }

    private static String[] noGroup(String call) {
        return each(call, "-1", "6", "MIN", "MAX");
    }

    private static String[] noMap(String call) {
        return each(call, "-1", "7", "8", "MIN", "MAX");
    }

    /** None of a row of four: SHEETS, SHELVES. */
    private static String[] noneOfFour(String call) {
        return each(call, "-1", "4", "MIN", "MAX");
    }

    /** Refused, if one of the three numbers of an ELEMENT is not -999 to 999; they stand where ### stands. */
    private static void badElement(String call) {
        for (String v : new String[] {"-1000", "1000", "MIN", "MAX"}) {
            bad(call.replace("###", v + " 0 0"), call.replace("###", "0 " + v + " 0"), call.replace("###", "0 0 " + v));
        }
    }

    // ------------------------------------------------------------------ groups

    private static void groups() {
        bad(noGroup("group # 1"));
        bad(each("group 0 #", "-1", "4", "MIN", "MAX"));
        bad(noGroup("relation # 0 0 0"));
        for (String v : new String[] {"-10", "10", "MIN", "MAX"}) {
            for (String g : new String[] {"0", "3", "5"}) {
                bad("relation " + g + " " + v + " 0 0", "relation " + g + " 0 " + v + " 0", "relation " + g + " 0 0 " + v);
            }
        }
        refused("FULL", "relation 2 0 0 0", "relation 2 9 -9 9");
        bad("relation 2 10 0 0", "relation 2 0 -10 0", "relation 2 0 0 10");
        bad(noGroup("groupIs # 0"));
        bad(each("groupIs 0 #", "-1", "4", "MIN", "MAX"));
        for (String call : new String[] {"ring", "step"}) {
            bad(noGroup(call + " # 0"));
            bad(each(call + " 0 #", "-1", "2", "MIN", "MAX"));
            bad(call + " 1 1", call + " 2 3", call + " 3 0");
        }
        bad(noGroup("normal # 0 0 0 0"));
        bad(each("normal 0 0 0 0 #", "-1", "2", "MIN", "MAX"));
        bad("normal 1 0 0 0 1", "normal 2 0 0 0 3", "normal 3 0 0 0 0");
        badElement("normal 0 ### 0");
        bad(noGroup("order # 0 0 0"));
        badElement("order 1 ###");
        badElement("order 3 ###");
    }

    private static void groupsByTwo() {
        bad(noGroup("same # 0"));
        bad(noGroup("same 0 #"));
        for (String k : new String[] {"-1", "0", "99"}) {
            bad(each("ofTwo # 0 1 " + k, "-1", "5", "MIN", "MAX"));
            bad(noGroup("ofTwo 0 # 1 " + k));
            bad(noGroup("ofTwo 4 0 # " + k));
        }
        bad(each("ofTwo 4 0 1 #", "-2", "MIN"));
        refused("NONE", "ofTwo 0 0 3 0", "ofTwo 4 3 3 0", "ofTwo 4 0 1 3", "ofTwo 4 0 1 MAX", "ofTwo 2 5 0 0");
        bad(noGroup("span # 1 0 1"));
        bad(noneOfFour("span 0 # 0 1"));
        bad(each("span 0 1 0 #", "-1", "10", "MIN", "MAX"));
        Calls.sentence("BAD: g, sheet, n; -13; -11; -12; BAD: another number.");
        bad("span 6 3 0 1", "span 6 2 0 1", "span 6 1 9 1", "span 0 3 0 10", "span 0 2 0 -1", "span 0 1 9 10");
        refused("UNLIKE", "span 0 0 0 1", "span 0 2 0 1", "span 0 2 -1 1", "span 0 0 99 9", "span 0 2 0 0", "span 0 2 99 0");
        refused("MISSING", "span 0 3 0 1", "span 0 3 -1 1", "span 0 3 99 9", "span 0 3 0 0", "span 0 3 99 0");
        refused("OUTSIDE", "span 0 1 5 1", "span 0 1 -1 1", "span 0 1 0 3", "span 0 1 2 2", "span 0 1 MAX 9", "span 0 1 MIN 1");
        bad("span 0 1 4 1", "span 0 1 1 2", "span 3 1 4 1");
        refusedBehind("put 1 4 -100", "BAD", "span 0 1 2 1", "span 0 1 3 1");
        refusedBehind("put 1 4 MIN", "BAD", "span 0 1 2 1");
        refusedBehind("put 1 4 MAX", "BAD", "span 0 1 2 1");
        refusedBehind("put 1 4 -100", "OUTSIDE", "span 0 1 4 2", "span 0 1 -2 2");
        Calls.sentence("Answers below 0, where not told otherwise, are refusals; such a call changes nothing");
    }

    // ------------------------------------------------------------------ maps

    private static void maps() {
        bad(each("map # 0 1", "-1", "8", "MIN", "MAX"));
        bad(noGroup("map 0 # 1"));
        bad(noGroup("map 0 1 #"));
        bad(noMap("entry # 0 0 1"));
        bad(each("entry 1 # 0 1", "-1", "2", "MIN", "MAX"));
        bad(each("entry 3 0 # 1", "-1", "2", "MIN", "MAX"));
        bad(each("entry 1 0 0 #", "-10", "10", "MIN", "MAX"));
        bad("entry 1 0 1 1", "entry 3 1 0 1");
        bad(noMap("at # 0 0"));
        bad(each("at 1 # 0", "-1", "2", "MIN", "MAX"));
        bad(each("at 3 0 #", "-1", "2", "MIN", "MAX"));
        bad("at 1 0 1", "at 3 1 0");
        bad(noMap("mapIs # 0"));
        bad(each("mapIs 1 #", "-1", "5", "MIN", "MAX"));
        bad(each("mapIs 2 #", "-1", "5"));
        refused("STATE", "mapIs 2 3", "mapIs 2 4");
        bad(noMap("part # 0 -1"));
        bad(each("part 1 # -1", "-1", "3", "MIN", "MAX"));
        bad(each("part 1 0 #", "-2", "MIN"));
        bad("part 2 3 -1", "part 2 0 -2", "part 1 3 0");
        refused("STATE", "part 2 0 -1", "part 2 1 0", "part 2 2 99");
        refused("NONE", "part 1 2 1", "part 0 1 1", "part 3 0 0", "part 1 0 MAX");
        bad(noMap("exact # 1"));
        bad(noMap("exact 1 #"));
        bad("exact 2 7", "exact 7 2");
        refused("STATE", "exact 2 1", "exact 1 2", "exact 0 1", "exact 3 3");
        bad(each("feed 97 #", "-1", "0", "9", "MIN", "MAX"));
        refusedBehind("tape '12345678901234567890123456789012345678901234567890123456789012345678901234567890123456789012345'",
            "FULL", "feed 97 4", "feed 97 8");
        refusedBehind("tape '12345678901234567890123456789012345678901234567890123456789012345678901234567890123456789012345'",
            "BAD", "feed 97 0", "feed 97 9");
    }

    private static void mapsByElements() {
        bad(noMap("image # 0 0 0 0"));
        badElement("image 1 ### 0");
        bad(each("image 3 0 0 0 #", "-1", "2", "MIN", "MAX"));
        bad("image 1 0 0 0 1", "image 5 0 0 0 2");
        refused("STATE", "image 2 0 0 0 0", "image 2 0 0 0 1");
        bad("image 2 1000 0 0 0", "image 2 0 0 0 2");
        bad(noMap("whence # 0 0 0 0"));
        badElement("whence 1 ### 0");
        bad(each("whence 1 0 0 0 #", "-1", "2", "MIN", "MAX"));
        bad("whence 3 0 0 0 1", "whence 5 0 0 0 2");
        refused("STATE", "whence 2 0 0 0 0");
        refused("NONE", "whence 0 1 0 0 0", "whence 3 1 0 0 0", "whence 3 0 1 0 0");
        bad("whence 2 0 0 1000 0", "whence 2 0 0 0 1", "whence 0 1 0 0 1", "whence 0 1 -1000 0 0");
    }

    /** A refused text uses THE TAPE up, but nothing else changes; only what is no number of a MAP leaves it. */
    private static void texts() {
        bad(each("text #", "-1", "8", "MIN", "MAX"));
        Calls.sentence("(but that THE TAPE is used up by text())");
        refusedText("", "a+", -102);
        refusedText("", "  ", -102);
        refusedText("", "h+(((((a", -106);
        refusedText("", "h", -300);
        refusedText("", "h+a+b", -300);
        refusedText("", "b.b", -301);
        refusedText("", "a+b", -301);
        refusedText("entry 6 0 0 9", "9(9g)", -16);
        refusedText("entry 6 0 0 9", "9(9g)+a", -301);
        Calls.sentence("Answers below 0, where not told otherwise, are refusals; such a call changes nothing");
    }

    private static void refusedText(String prepared, String text, int due) {
        refusals++;
        for (int f = 0; f < 8; f += 3) {
            Calls asked = Calls.play(RICH + prepared).then("text " + f + " '" + text + "' = " + due);
            same(prepared + " " + text, seen(asked), seen(Calls.play(RICH + prepared)));
        }
    }

    // ------------------------------------------------------------------ diagrams, moves

    private static void diagrams() {
        bad(noneOfFour("diagram # 0"));
        refused("UNLIKE", "diagram 1 0", "diagram 2 0", "diagram 1 -1", "diagram 2 99");
        refused("MISSING", "diagram 3 0", "diagram 3 -1", "diagram 3 MAX");
        refused("OUTSIDE", "diagram 0 -1", "diagram 0 4", "diagram 0 40", "diagram 0 MIN", "diagram 0 MAX");
        refused("NONE", "diagram 0 1", "diagram 0 2", "diagram 0 3");
        refusedBehind("sheet 0 0 6", "OUTSIDE", "diagram 0 0");
        refusedBehind("sheet 0 0 0", "OUTSIDE", "diagram 0 0");
        bad(noneOfFour("connected # 0 0 0 0 0"));
        refused("UNLIKE", "connected 1 0 0 0 0 0", "connected 2 -1 1000 0 0 0");
        refused("MISSING", "connected 3 0 0 0 0 0", "connected 3 -1 1000 0 0 9");
        refused("OUTSIDE", "connected 0 -1 0 0 0 0", "connected 0 4 0 0 0 0", "connected 0 MAX 1000 0 0 9");
        refused("NONE", "connected 0 1 0 0 0 0", "connected 0 2 0 0 0 0", "connected 0 3 1000 0 0 9");
        badElement("connected 0 0 ### 0");
        bad(each("connected 0 0 0 0 0 #", "-1", "1", "MIN", "MAX"));
        Calls.sentence("Refused as told: as of diagram(); STATE: it is not RIGHT; BAD: a, b, c, k; "
            + "NONE: it is not of the KERNEL of r.");
        String wrong = "entry 6 0 0 1;";
        refusedBehind(wrong, "STATE", "connected 0 0 0 0 0 0", "connected 0 0 1000 0 0 0", "connected 0 0 0 0 0 1");
        refusedBehind(wrong, "NONE", "connected 0 1 0 0 0 0");
        String right = "entry 6 0 0 1; entry 5 0 0 1; entry 5 1 1 1;";
        Calls.play(RICH + right + "diagram 0 0 = 1; connected 0 0 0 0 0 0 = 0");
        refusedBehind(right, "NONE", "connected 0 0 1 0 0 0", "connected 0 0 -999 5 5 0");
        refusedBehind(right, "BAD", "connected 0 0 1000 0 0 0", "connected 0 0 1 0 0 1", "connected 0 0 1 0 1000 0");
        Calls.sentence("Answers below 0, where not told otherwise, are refusals; such a call changes nothing");
    }

    private static void moves() {
        bad(each("move # 0", "-1", "4", "MIN", "MAX"));
        bad(each("move 0 #", "-1", "3", "MIN", "MAX"));
        bad(each("move 1 #", "-10", "10", "MIN", "MAX"));
        bad(noMap("move 2 #"));
        String full = "move 3 0; move 3 0; move 3 0; move 3 0; move 3 0; move 3 0; move 3 0; move 3 0;";
        refusedBehind(full, "FULL", "move 0 0", "move 1 0", "move 2 0", "move 3 MIN");
        refusedBehind(full, "BAD", "move 0 3", "move 1 10", "move 2 7", "move 4 0");
        bad(each("stop #", "-1", "4", "MIN", "MAX"));
        bad(noGroup("run # 0 0 0 0"));
        badElement("run 4 ### 0");
        badElement("run 3 ### 0");
        bad(each("run 4 0 0 0 #", "-1", "4", "MIN", "MAX"));
        refused("STATE", "run 0 1 1 1 0", "run 1 0 0 0 3", "run 5 0 0 0 2");
        bad("run 0 1 1 1 4", "run 0 1000 1 1 0");
        refusedBehind("move 1 9; move 1 9; move 1 9; move 1 9; move 1 9; move 1 9; move 1 9; move 1 9", "GREAT",
            "run 4 999 0 0 0", "run 4 -999 0 0 2", "run 4 999 0 0 3");
    }

    // ------------------------------------------------------------------ the host

    private static void sheets() {
        bad(noneOfFour("sheet # 0 1"));
        bad(noneOfFour("sheet # -1 1"));
        bad(each("sheet 0 # 1", "-2", "3", "MIN", "MAX"));
        bad(each("sheet 0 1 #", "41", "MAX"));
        refused("BELOW", each("sheet 0 1 #", "-1", "-40", "MIN"));
        bad("sheet 4 0 -1", "sheet 0 3 -1", "sheet 0 -2 -1");
        bad(noneOfFour("put # 0 1"));
        bad("put 4 99 0");
        refused("MISSING", "put 3 0 0", "put 3 -1 0", "put 3 MAX 0");
        refused("OUTSIDE", "put 0 -1 1", "put 0 10 1", "put 1 7 1", "put 2 3 1", "put 0 MIN 1", "put 0 MAX 1");
        bad(noneOfFour("item # 0 0"));
        bad(each("item 0 # 0", "-1", "3", "MIN", "MAX"));
        bad("item 3 -1 0", "item 3 3 0", "item 0 3 99");
        refused("UNLIKE", "item 0 1 0", "item 0 2 0", "item 1 0 0", "item 1 2 0", "item 2 0 0", "item 2 1 0", "item 0 1 99");
        refused("MISSING", "item 3 0 0", "item 3 1 0", "item 3 2 99");
        refused("OUTSIDE", "item 0 0 -1", "item 0 0 10", "item 1 1 7", "item 2 2 3", "item 0 0 MIN", "item 0 0 MAX");
    }

    private static void shelves() {
        bad(noneOfFour("lay # 0 0 0 0"));
        bad(noGroup("lay 0 # 0 0 0"));
        badElement("lay 0 0 ###");
        badElement("lay 2 3 ###");
        bad(noneOfFour("hold # 0"));
        bad(each("hold 0 #", "-2", "4", "MIN", "MAX"));
        bad(noneOfFour("add # 0"));
        bad(noneOfFour("add 0 #"));
        bad("add 3 4", "add 4 3", "add 2 -1");
        refused("MISSING", "add 0 3", "add 3 0", "add 3 3", "add 2 3", "add 3 2");
        refused("UNLIKE", "add 0 1", "add 1 0", "add 0 2", "add 2 0", "add 2 2");
        bad(noneOfFour("rest #"));
        refused("MISSING", "rest 3");
        refused("UNLIKE", "rest 2");
        bad(noneOfFour("lies # 0"));
        bad(each("lies 0 #", "-1", "4", "MIN", "MAX"));
        bad("lies 3 4", "lies 2 4");
        refused("MISSING", "lies 3 0", "lies 3 3");
        refused("UNLIKE", "lies 2 0", "lies 2 3");
        bad(noneOfFour("taken # 0"));
        bad(each("taken 0 #", "-1", "6", "9", "13", "MIN", "MAX"));
        bad("taken 3 6", "taken 2 9");
        refused("MISSING", "taken 3 0", "taken 3 12");
        refused("UNLIKE", "taken 0 1", "taken 0 10", "taken 1 0", "taken 2 0", "taken 2 10", "taken 2 12");
        String great = "add 1 1; add 1 1; add 1 1; add 1 1; add 1 1; add 1 1; add 1 1; add 1 1; add 1 1; add 1 1; add 1 1; "
            + "add 1 1; add 1 1; add 1 1; add 1 1; add 1 1; add 1 1; add 1 1; add 1 1;";
        refusedBehind(great, "GREAT", "add 1 1");
    }

    private static void kept() {
        bad(each("many #", "-1", "7", "MIN", "MAX"));
        refusedBehind("again", "NONE", "undo");
        Calls.play("undo = NONE; again = NONE; many 5 = 0; group 0 1; undo = 0; undo = NONE; again = NONE; groupIs 0 0 = 0");
    }

    // ------------------------------------------------------------------ numbers of refusals

    private static void longRefusals() {
        Calls.sentence("Of acts that answer longs refusals are 4000000000000000000 less (BAD: -4000000000000000001).");
        Calls calls = Calls.play(RICH);
        calls.then("normal 6 0 0 0 0 = -4000000000000000001; image 7 0 0 0 0 = -4000000000000000001");
        calls.then("image 2 0 0 0 0 = -4000000000000000004; whence 7 0 0 0 0 = -4000000000000000001");
        calls.then("whence 2 0 0 0 0 = -4000000000000000004; whence 0 1 0 0 0 = -4000000000000000003");
        calls.then("connected 4 0 0 0 0 0 = -4000000000000000001; connected 3 0 0 0 0 0 = -4000000000000000011");
        calls.then("connected 0 9 0 0 0 0 = -4000000000000000012; connected 1 0 0 0 0 0 = -4000000000000000013");
        calls.then("connected 0 1 0 0 0 0 = -4000000000000000003; run 6 0 0 0 0 = -4000000000000000001");
        calls.then("run 0 0 0 0 0 = -4000000000000000004; lies 4 0 = -4000000000000000001");
        calls.then("lies 3 0 = -4000000000000000011; lies 2 0 = -4000000000000000013");
        calls.then("entry 6 0 0 1; connected 0 0 0 0 0 0 = -4000000000000000004");
        calls.then("stop 2; move 1 9; move 1 9; move 1 9; move 1 9; move 1 9; move 1 9; move 1 9; move 1 9");
        calls.then("run 4 999 0 0 0 = -4000000000000000016");
        Calls.sentence("of several the first named: BAD (-1) there is no such thing, or a number is not as told; FULL (-2); "
            + "NONE (-3); STATE (-4)");
        calls.then("group 6 0 = -1; relation 2 0 0 0 = -2; part 0 1 1 = -3; exact 3 3 = -4; text 0 '9999' = -101");
        Calls.sentence("-11 nothing where something is asked, -12 a place outside, -13 a thing of another sort or kind, -14 "
            + "a size below 0, -16 a number is too great.");
        calls.then("item 3 0 0 = -11; item 0 0 10 = -12; item 0 1 0 = -13; sheet 0 0 -1 = -14; entry 6 0 0 9; "
            + "text 0 '9(9g)' = -16");
        Calls.sentence("public static final int BAD = -1, FULL = -2, NONE = -3, STATE = -4;");
        Calls.due("BAD", GroupsByRelations.BAD, -1);
        Calls.due("FULL", GroupsByRelations.FULL, -2);
        Calls.due("NONE", GroupsByRelations.NONE, -3);
        Calls.due("STATE", GroupsByRelations.STATE, -4);
    }
}
