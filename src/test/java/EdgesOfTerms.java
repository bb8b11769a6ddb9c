import java.util.ArrayList;
import java.util.List;

/** 'Terms' up to part 1: numbers, sets, the order of refusals, and what they leave unchanged. */
final class EdgesOfTerms {
    private static final String HOUSE = "h5,3;f9;f0;f12;l20,0,1;o15,1,1;s9,2,1;t7,1,0;b38,2,1;";

    private final Edges edges;

    EdgesOfTerms(Edges edges) {
        this.edges = edges;
    }

    void all() {
        numbersGoFromNone();
        setsAreBits();
        badComesAheadOfState();
        stateComesAheadOfBadAsTold();
        badComesAheadOfFull();
        badComesAheadOfFindings();
        findingsHaveNumbers();
        theFirstFindingInTime();
        refusalsChangeNothing();
        whatIsForetoldOrToldChangesNothing();
        theLastCallCounts();
    }

    private void numbersGoFromNone() {
        edges.of(Edges.TERMS, "Numbers go from 0 on.");
        Run run = edges.housed("h0,1;f3;f4;t5,1,1;t6,0,1;").due("hearth(0, 0)", 3).due("hearth(1, 0)", 4);
        run.bad("hearth(2, 0)", "hearth(-1, 0)").due("pair(0, 0)", 5).due("pair(1, 0)", 6).bad("pair(2, 0)", "pair(-1, 0)");
        run.due("pair(0, 1)", 1).due("count(3)", 0).due("row(0, 0, 1)", 1).due("row(7, 0, 1)", 1).bad("row(8, 0, 1)");
    }

    private void setsAreBits() {
        edges.of(Edges.TERMS, "Sets are bits.");
        Run run = edges.housed("h0,1;f1;f0;f0;f0;f0;f0;f0;f1;t0,0,0;t0,0,0;t0,0,0;t0,0,0;t0,7,0;t0,0,0;t0,7,1;");
        run.due("count(6)", 1 + 128).due("lit(0)", 129).due("count(7)", 64).due("hearth(7, 2)", 16 + 64);
        run.due("hearth(0, 2)", 1 + 2 + 4 + 8 + 32).due("hearth(1, 2)", 0).due("peg(0, 1)", 65).due("lit(1)", 0);
    }

    private void badComesAheadOfState() {
        edges.of(Edges.TERMS, "Refusals are answers, the first of these that fits, but as told: "
            + "BAD (a number is not as told; there is no such thing), STATE (as told),");
        Run none = edges.fresh().bad("image(-1)", "image(2)", "restore(-1)", "restore(2)");
        none.state("image(0)", "image(1)", "restore(0)", "restore(1)");
        none.bad("peg(0, 0)", "peg(0, 1)", "move(0, 0)", "light(0, 0)");
        Run run = edges.housed(HOUSE).state("peg(4, 1)", "move(4, 2)").bad("peg(5, 1)", "move(5, 2)", "move(4, 3)");
        run.state("restore(0)").bad("restore(2)").state("undo()");
    }

    private void stateComesAheadOfBadAsTold() {
        edges.of(Edges.TERMS, "but as told:");
        String[] wrong = {"days(0)", "days(25)", "weather(-1)", "weather(16)", "lit(-1)", "lit(61)", "empty(-1)", "empty(2)",
            "draw(0, 0)", "draw(31, 0)", "draw(1, 2)", "drawn(-1, 1, 0)", "drawn(61, 1, 0)", "drawn(0, 0, 0)",
            "drawn(0, 1000000, 0)", "drawn(0, 1, 2)"};
        edges.fresh().state(wrong);
        edges.housed(HOUSE).bad(wrong);
    }

    private void badComesAheadOfFull() {
        edges.of(Edges.TERMS, "FULL (as told), then FINDINGS,");
        Run run = edges.fresh();
        for (int i = 0; i < 100; i++) run.does("feed(104)");
        run.full("feed(0)", "feed(255)").bad("feed(-1)", "feed(256)").due("count(9)", 100);
        Run late = edges.housed("h0,1;f0;f0;");
        for (int i = 0; i < 416; i++) late.does("days(24)");
        late.full("days(16)", "days(24)").bad("days(0)", "days(25)", "days(10000)").due("count(3)", 9984);
        late.due("days(15)", 0).full("days(1)").bad("days(0)", "days(25)").due("count(3)", 9999);
    }

    private void badComesAheadOfFindings() {
        edges.of(Edges.TERMS, "then FINDINGS,");
        Run run = edges.housed(HOUSE).does("row(0, 0, 3)", "row(1, 1, 3)");
        run.bad("row(8, 0, -1)", "row(0, 3, -1)", "row(0, -1, -1)", "row(-1, 0, -1)");
        run.bad("set(8, -1, 0)", "set(-1, 40, 0)", "drop(8)", "drop(-1)");
        run.bad("copy(8, 0, 2, 0, 1)", "copy(2, 0, 8, 0, 1)", "copy(0, 0, -1, 0, -1)", "copy(-1, 9, 1, 9, 9)");
        run.bad("fits(5, 2, 0, 1, 0)", "fits(0, 2, 0, 13, 0)", "fits(0, 2, 0, 1, 5)", "fits(0, 0, 9, 0, 0)");
        run.bad("as(5, 5)", "as(0, 6)", "as(-1, 2)").due("status()", 0);
    }

    private void findingsHaveNumbers() {
        edges.of(Edges.TERMS, "-1000010 less 1 NULL (a ROW that is missing), 2 PLACE (no such place of a ROW), "
            + "3 KIND (a PAIR that is not that), 4 SIZE (fewer than none), 5 STORE (ROWS of two LANES).");
        Run run = edges.housed(HOUSE).does("row(0, 0, 3)", "row(1, 1, 3)");
        run.due("drop(2)", -1000011).due("status()", 1).due("set(0, 3, 0)", -1000012).due("status()", 2);
        run.due("as(0, 2)", -1000013).due("status()", 3).due("row(0, 0, -1)", -1000014).due("status()", 4);
        run.due("copy(0, 0, 1, 0, 1)", -1000015).due("status()", 5);
    }

    private void theFirstFindingInTime() {
        edges.of(Edges.TERMS, "of several the first in time:");
        Run run = edges.housed(HOUSE).does("row(0, 0, 3)", "row(1, 1, 3)");
        run.missing("set(2, -1, 0)", "set(2, 3, 0)", "fits(0, 2, -1, 1, 0)", "fits(0, 2, 40, 12, 0)");
        run.missing("copy(2, -1, 1, 0, 1)", "copy(1, -1, 2, 0, 1)", "copy(2, 9, 3, 9, -1)");
        run.due("copy(0, -1, 1, 0, 1)", Check.STORE).due("copy(0, 0, 1, 3, 1)", Check.STORE);
        run.due("copy(0, 0, 1, 0, -1)", Check.STORE).noPlace("copy(0, 0, 0, 3, 1)", "copy(1, 0, 1, 0, -1)");
    }

    /** Rows, an unfinished text on the tape, a FAULT, THE TRACE, and the status of a PLACE that is none. */
    private static Run readied(Run run) {
        run.does("row(0, 0, 3)", "set(0, 0, 7)", "set(0, 1, 8)", "set(0, 2, 9)", "row(1, 1, 2)", "set(1, 1, 5)");
        run.feeds("h16").does("house()", "set(0, 3, 0)");
        return run.feeds("h1,1;f1;f2");
    }

    private Run readiedWithoutAHouse() {
        return readied(edges.fresh());
    }

    private Run readiedWithAHouse() {
        Run run = edges.housed(HOUSE).does("days(2)", "image(0)", "peg(0, 0)", "move(1, 2)", "light(0, 4)", "weather(10)");
        return readied(run.does("days(2)", "peg(3, 1)", "image(1)", "ask(1, 0)"));
    }

    /** What there is, told by calls that change nothing. */
    private static List<String> told() {
        List<String> calls = new ArrayList<>();
        for (int what = 0; what < 10; what++) calls.add("count(" + what + ")");
        for (int i = 0; i < 7; i++) calls.add("trace(" + i + ")");
        for (int what = 0; what < 4; what++) {
            for (int p = 0; p < 6; p++) calls.add("pair(" + p + ", " + what + ")");
            for (int h = 0; h < 4; h++) calls.add("hearth(" + h + ", " + what + ")");
        }
        for (int p = 0; p < 6; p++) calls.add("kind(" + p + ")");
        calls.add("fault()");
        return calls;
    }

    /** What there is, and then what is kept: ACTS, IMAGES, ROWS, the tape. */
    private static List<String> laidOpen() {
        List<String> calls = told();
        for (int i = 0; i < 9; i++) {
            calls.addAll(List.of("undo()", "count(3)", "count(4)", "count(7)", "pair(1, 1)", "hearth(0, 0)", "pair(0, 0)"));
        }
        for (int k = 0; k < 2; k++) {
            calls.addAll(List.of("restore(" + k + ")", "count(1)", "count(2)", "count(3)", "count(4)", "count(5)", "count(6)"));
            for (int p = 0; p < 5; p++) calls.add("pair(" + p + ", 0)");
        }
        calls.addAll(List.of("weather(0)", "peg(3, 1)"));
        for (int i = 0; i < 3; i++) calls.add("fits(3, 0, " + i + ", 1, 4)");
        for (int i = 0; i < 2; i++) calls.add("fits(3, 1, " + i + ", 1, 4)");
        for (int row = 0; row < 8; row++) calls.addAll(List.of("set(" + row + ", 0, 300)", "drop(" + row + ")"));
        calls.addAll(List.of("feed(59)", "house()", "count(1)", "hearth(0, 0)", "hearth(1, 0)"));
        return calls;
    }

    /** Of two objects used alike one gets a call more: it must not show but in status(). */
    private void dueUnchanged(Run one, Run other, String call, int status) {
        one.does(call).due("status()", status);
        other.due("status()", 2);
        for (String probe : laidOpen()) {
            edges.due(probe + " behind " + call, one.answer(probe), other.answer(probe));
        }
    }

    private void refusalsChangeNothing() {
        edges.of(Edges.TERMS, "What is refused, or found, changes nothing but status().");
        String[] bad = {"row(8, 0, 1)", "row(0, 3, 1)", "row(0, 0, 41)", "set(8, 0, 1)", "copy(0, 0, 8, 0, 1)", "drop(8)",
            "feed(256)", "feed(-1)", "peg(5, 0)", "peg(0, 2)", "move(5, 0)", "move(0, 3)", "light(3, 1)", "light(0, 21)",
            "pair(5, 0)", "hearth(3, 0)", "breath(0, 61)", "fire(0, 61)", "cold(3)", "best(0, 31, 0)", "rests(0, 0, 9, 0)",
            "rests(0, 1, 21, 0)", "fits(0, 0, 0, 13, 0)", "chance(0, 9, 1, 0)", "image(2)", "restore(2)", "kind(5)",
            "as(0, 6)", "ask(0, 2)", "ask(5, 0)", "trace(-1)", "count(10)"};
        String[] stateOrBad = {"days(0)", "days(25)", "weather(16)", "lit(61)", "empty(2)", "draw(31, 0)", "drawn(0, 0, 0)"};
        for (String call : bad) {
            dueUnchanged(readiedWithAHouse(), readiedWithAHouse(), call, 2);
            dueUnchanged(readiedWithoutAHouse(), readiedWithoutAHouse(), call, 2);
        }
        for (String call : stateOrBad) {
            dueUnchanged(readiedWithAHouse(), readiedWithAHouse(), call, 2);
            dueUnchanged(readiedWithoutAHouse(), readiedWithoutAHouse(), call, 2);
        }
        for (String call : new String[] {"peg(0, 0)", "peg(2, 1)", "move(0, 0)", "move(1, 2)"}) {
            dueUnchanged(readiedWithAHouse(), readiedWithAHouse(), call, 2);
        }
        for (String call : new String[] {"undo()", "days(1)", "weather(3)", "image(0)", "restore(0)", "peg(0, 0)"}) {
            dueUnchanged(readiedWithoutAHouse(), readiedWithoutAHouse(), call, 2);
        }
        findingsChangeNothingElse();
    }

    private void findingsChangeNothingElse() {
        String[] found = {"drop(2)", "set(2, 0, 1)", "copy(0, 0, 2, 0, 1)", "copy(2, 0, 0, 0, 1)", "fits(0, 2, 0, 1, 0)",
            "set(0, 3, 1)", "set(0, -1, 1)", "copy(0, 0, 0, 1, 3)", "copy(0, 0, 0, 0, -1)", "fits(0, 0, 1, 3, 0)",
            "as(0, 2)", "as(4, 1)", "row(0, 2, -1)", "row(2, 0, -1)", "copy(0, 0, 1, 0, 1)", "copy(1, 0, 0, 0, 0)"};
        int[] number = {1, 1, 1, 1, 1, 2, 2, 2, 2, 2, 3, 3, 4, 4, 5, 5};
        for (int i = 0; i < found.length; i++) {
            dueUnchanged(readiedWithAHouse(), readiedWithAHouse(), found[i], number[i]);
        }
    }

    private void whatIsForetoldOrToldChangesNothing() {
        edges.of(Edges.TERMS, "FORETOLD (nothing changes)");
        String[] calls = {"breath(0, 60)", "fire(2, 60)", "lit(60)", "empty(0)", "empty(1)", "cold(0)", "cold(2)",
            "best(0, 30, 0)", "best(3, 30, 1)", "draw(30, 0)", "draw(1, 1)", "rests(0, 1, 20, -1)", "rests(3, 0, 5, 0)",
            "chance(0, 8, 5, 0)", "chance(1, 8, 5, 1)", "drawn(60, 9, 0)", "drawn(60, 9, 1)", "pair(0, 3)", "hearth(2, 3)",
            "kind(0)", "trace(0)", "count(0)", "status()", "fault()"};
        for (String call : calls) dueUnchanged(readiedWithAHouse(), readiedWithAHouse(), call, 2);
        for (int what = 0; what < 5; what++) {
            for (int p = 0; p < 5; p++) {
                dueUnchanged(readiedWithAHouse(), readiedWithAHouse(), "fits(" + p + ", 0, 0, 3, " + what + ")", 0);
            }
        }
        dueUnchanged(readiedWithAHouse(), readiedWithAHouse(), "as(1, 1)", 0);
    }

    private void theLastCallCounts() {
        edges.ofTheWhole("An object is used for at most 512 calls after it has been made; what later calls answer is free.");
        // The last is answered as the first (19 calls for the text); none later throws.
        Run run = edges.housed("h0,1;f0;f0;b9,0,1;");
        for (int i = 0; i < 246; i++) run.does("peg(0, 0)", "peg(0, 1)");
        run.due("count(7)", 1);
        BellowsWords x = Check.housed(HOUSE);
        for (int i = 0; i < 4000; i++) {
            x.days(24);
            x.feed(i % 256);
            x.row(i % 8, i % 3, i % 41);
            x.ask(i % 5, i % 2);
            x.image(i % 2);
        }
        edges.due("days(24) long after", x.days(24), BellowsWords.FULL);
    }
}
