import java.util.List;
import java.util.function.Consumer;
import java.util.function.ToLongFunction;

/**
 * "Refused, and nothing changes, the first of these: BAD .., STATE (as told), FULL": an object that refuses
 * a call is heard like its twin that was never asked, in each of several states.
 */
public final class RefusedTest {
    private static final int MIN = Integer.MIN_VALUE;
    private static final int MAX = Integer.MAX_VALUE;
    private static final long FAR = 1000000000001L;
    private static final Due due = new Due();

    private record Call(String name, ToLongFunction<CountedOut> asked) { }

    private static final List<Consumer<CountedOut>> WITHOUT_A_TURN =
        List.of(RefusedTest::nothing, RefusedTest::settled, RefusedTest::backAtTheStart, RefusedTest::ofOne);
    private static final List<Consumer<CountedOut>> WITH_A_TURN =
        List.of(RefusedTest::begun, RefusedTest::halfway, RefusedTest::over, RefusedTest::greatestOver);

    private static final List<Call> BAD_IN_GREAT_RINGS = List.of(
        call("goes(0, 1, 1)", x -> x.goes(0, 1, 1)), call("goes(FAR, 1, 1)", x -> x.goes(FAR, 1, 1)),
        call("goes(5, 0, 1)", x -> x.goes(5, 0, 1)), call("goes(5, 1001, 1)", x -> x.goes(5, 1001, 1)),
        call("goes(5, 1, 0)", x -> x.goes(5, 1, 0)), call("goes(5, 1, 6)", x -> x.goes(5, 1, 6)),
        call("turn(0, 1, 0)", x -> x.turn(0, 1, 0)), call("turn(FAR, 1, 0)", x -> x.turn(FAR, 1, 0)),
        call("turn(5, 0, 0)", x -> x.turn(5, 0, 0)), call("turn(5, 1001, 0)", x -> x.turn(5, 1001, 0)),
        call("turn(5, 1, -1)", x -> x.turn(5, 1, -1)), call("turn(5, 1, 5)", x -> x.turn(5, 1, 5)),
        call("last(0, 1)", x -> x.last(0, 1)), call("last(FAR, 1)", x -> x.last(FAR, 1)),
        call("last(5, 0)", x -> x.last(5, 0)), call("last(5, 1001)", x -> x.last(5, 1001)),
        call("first(1, 1, 1)", x -> x.first(1, 1, 1)), call("first(21, 1, 1)", x -> x.first(21, 1, 1)),
        call("first(5, 0, 1)", x -> x.first(5, 0, 1)), call("first(5, 31, 1)", x -> x.first(5, 31, 1)),
        call("first(5, 32, 1)", x -> x.first(5, 32, 1)), call("first(5, 1, 0)", x -> x.first(5, 1, 0)),
        call("first(5, 1, 10001)", x -> x.first(5, 1, 10001)), call("least(1, 1)", x -> x.least(1, 1)),
        call("least(21, 1)", x -> x.least(21, 1)), call("least(5, 0)", x -> x.least(5, 0)),
        call("least(5, 31)", x -> x.least(5, 31)), call("least(5, 32)", x -> x.least(5, 32)));

    private static final List<Call> BAD_IN_THE_RING = List.of(
        call("ring(0)", x -> x.ring(0)), call("ring(-1)", x -> x.ring(-1)), call("ring(41)", x -> x.ring(41)),
        call("ring(MIN)", x -> x.ring(MIN)), call("ring(MAX)", x -> x.ring(MAX)),
        call("lives(-1, 2)", x -> x.lives(-1, 2)), call("lives(40, 2)", x -> x.lives(40, 2)),
        call("lives(0, 0)", x -> x.lives(0, 0)), call("lives(0, 6)", x -> x.lives(0, 6)),
        call("lives(MIN, MAX)", x -> x.lives(MIN, MAX)), call("lives(MAX, MIN)", x -> x.lives(MAX, MIN)),
        call("set(0, 0)", x -> x.set(0, 0)), call("set(0, 21)", x -> x.set(0, 21)),
        call("set(1, -1)", x -> x.set(1, -1)), call("set(1, 3)", x -> x.set(1, 3)),
        call("set(-1, 1)", x -> x.set(-1, 1)), call("set(2, 1)", x -> x.set(2, 1)),
        call("set(MAX, MIN)", x -> x.set(MAX, MIN)),
        call("words(0, ..)", x -> x.words(0, 1, 2, 3, 4, true)),
        call("words(5, ..)", x -> x.words(5, 1, 2, 3, 4, true)),
        call("words(1, 0, ..)", x -> x.words(1, 0, 2, 3, 4, false)),
        call("words(2, 1, 100, ..)", x -> x.words(2, 1, 100, 3, 4, true)),
        call("words(3, 1, 2, 0, ..)", x -> x.words(3, 1, 2, 0, 4, false)),
        call("words(4, 1, 2, 3, 100, ..)", x -> x.words(4, 1, 2, 3, 100, true)),
        call("words(MIN, ..)", x -> x.words(MIN, MIN, MIN, MIN, MIN, true)),
        call("turns(0)", x -> x.turns(0)), call("turns(-1)", x -> x.turns(-1)), call("turns(201)", x -> x.turns(201)),
        call("turns(MIN)", x -> x.turns(MIN)), call("turns(MAX)", x -> x.turns(MAX)),
        call("back(0)", x -> x.back(0)), call("back(-1)", x -> x.back(-1)), call("back(201)", x -> x.back(201)),
        call("back(MIN)", x -> x.back(MIN)), call("back(MAX)", x -> x.back(MAX)),
        call("about(-1, 0)", x -> x.about(-1, 0)), call("about(40, 1)", x -> x.about(40, 1)),
        call("about(0, -1)", x -> x.about(0, -1)), call("about(0, 2)", x -> x.about(0, 2)),
        call("told(-1)", x -> x.told(-1)), call("told(5)", x -> x.told(5)));

    private static final List<Call> BAD_IN_CHOSEN_COUNTS = List.of(
        call("may(0, 1)", x -> x.may(0, 1)), call("may(13, 1)", x -> x.may(13, 1)),
        call("may(5, 0)", x -> x.may(5, 0)), call("may(5, 64)", x -> x.may(5, 64)),
        call("can(0, 1, 1)", x -> x.can(0, 1, 1)), call("can(13, 1, 1)", x -> x.can(13, 1, 1)),
        call("can(5, 0, 1)", x -> x.can(5, 0, 1)), call("can(5, 64, 1)", x -> x.can(5, 64, 1)),
        call("can(5, 1, 0)", x -> x.can(5, 1, 0)), call("can(5, 1, 64)", x -> x.can(5, 1, 64)));

    private static final List<Call> BAD_COUNTS = List.of(
        call("count(-1)", x -> x.count(-1)), call("count(100001)", x -> x.count(100001)),
        call("count(MIN)", x -> x.count(MIN)), call("count(MAX)", x -> x.count(MAX)));

    private static final List<Call> NOT_WITH_A_TURN = List.of(
        call("lives(0, 1)", x -> x.lives(0, 1)), call("lives(0, 5)", x -> x.lives(0, 5)),
        call("lives(6, 3)", x -> x.lives(6, 3)),
        call("set(0, 1)", x -> x.set(0, 1)), call("set(0, 20)", x -> x.set(0, 20)),
        call("set(1, 0)", x -> x.set(1, 0)), call("set(1, 2)", x -> x.set(1, 2)),
        call("words(1, 1, ..)", x -> x.words(1, 1, 0, 0, 0, false)),
        call("words(4, 99, ..)", x -> x.words(4, 99, 99, 99, 99, true)));

    private static final List<Call> QUESTIONS = List.of(
        call("goes(41, 3, 40)", x -> x.goes(41, 3, 40)), call("turn(41, 3, 15)", x -> x.turn(41, 3, 15)),
        call("last(41, 3)", x -> x.last(41, 3)), call("first(4, 12, 7)", x -> x.first(4, 12, 7)),
        call("least(4, 12)", x -> x.least(4, 12)), call("about(0, 0)", x -> x.about(0, 0)),
        call("about(0, 1)", x -> x.about(0, 1)), call("told(0)", x -> x.told(0)), call("told(4)", x -> x.told(4)),
        call("may(5, 3)", x -> x.may(5, 3)), call("can(3, 3, 1)", x -> x.can(3, 3, 1)),
        call("trace()", CountedOut::trace));

    public static void main(String[] args) {
        badChangesNothing();
        badCountChangesNothing();
        stateChangesNothing();
        badIsToldAheadOfState();
        questionsChangeNothing();
        fullIsNeverTold();
        due.end();
    }

    private static Call call(String name, ToLongFunction<CountedOut> asked) {
        return new Call(name, asked);
    }

    private static void nothing(CountedOut x) {
    }

    private static void settled(CountedOut x) {
        x.ring(7);
        x.lives(3, 5);
        x.lives(6, 2);
        x.set(0, 20);
        x.set(1, 2);
        x.words(4, 1, 99, 7, 4, true);
        x.count(5);
    }

    private static void begun(CountedOut x) {
        settled(x);
        x.turns(1);
    }

    private static void halfway(CountedOut x) {
        settled(x);
        x.turns(6);
        x.back(2);
    }

    private static void over(CountedOut x) {
        settled(x);
        x.turns(200);
    }

    private static void backAtTheStart(CountedOut x) {
        over(x);
        x.back(200);
    }

    private static void greatestOver(CountedOut x) {
        x.ring(40);
        for (int p = 0; p < 40; p++) {
            x.lives(p, 5);
        }
        x.set(0, 1);
        x.turns(200);
    }

    private static void ofOne(CountedOut x) {
        x.ring(1);
        x.turns(1);
    }

    private static CountedOut in(Consumer<CountedOut> state) {
        CountedOut x = new CountedOut();
        state.accept(x);
        return x;
    }

    private static void sameAsTwin(Call call, Consumer<CountedOut> state, CountedOut asked) {
        due.holds("nothing changes by " + call.name(), Heard.of(asked).equals(Heard.of(in(state))));
    }

    private static void refused(Call call, List<Consumer<CountedOut>> states, long want) {
        for (Consumer<CountedOut> state : states) {
            CountedOut x = in(state);
            due.is(call.name(), call.asked().applyAsLong(x), want);
            due.is(call.name() + " again", call.asked().applyAsLong(x), want);
            sameAsTwin(call, state, x);
        }
    }

    private static void badChangesNothing() {
        for (List<Call> calls : List.of(BAD_IN_GREAT_RINGS, BAD_IN_THE_RING, BAD_IN_CHOSEN_COUNTS)) {
            for (Call call : calls) {
                refused(call, WITHOUT_A_TURN, CountedOut.BAD);
            }
        }
    }

    private static void badCountChangesNothing() {
        for (Call call : BAD_COUNTS) {
            refused(call, WITHOUT_A_TURN, -1000);
            refused(call, WITH_A_TURN, -1000);
        }
    }

    private static void stateChangesNothing() {
        for (Call call : NOT_WITH_A_TURN) {
            refused(call, WITH_A_TURN, CountedOut.STATE);
        }
    }

    private static void badIsToldAheadOfState() {
        for (List<Call> calls : List.of(BAD_IN_GREAT_RINGS, BAD_IN_THE_RING, BAD_IN_CHOSEN_COUNTS)) {
            for (Call call : calls) {
                refused(call, WITH_A_TURN, CountedOut.BAD);
            }
        }
    }

    private static void questionsChangeNothing() {
        for (List<Consumer<CountedOut>> states : List.of(WITHOUT_A_TURN, WITH_A_TURN)) {
            for (Consumer<CountedOut> state : states) {
                for (Call call : QUESTIONS) {
                    CountedOut x = in(state);
                    call.asked().applyAsLong(x);
                    sameAsTwin(call, state, x);
                }
            }
        }
    }

    // No promise tells FULL: the most people with the most lives and the most turns still fit.
    private static void fullIsNeverTold() {
        CountedOut x = in(RefusedTest::greatestOver);
        due.is("told(2) of the greatest", x.told(2), 199);
        for (Call call : NOT_WITH_A_TURN) {
            due.is(call.name() + " of the greatest", call.asked().applyAsLong(x), CountedOut.STATE);
        }
        due.is("turns(200) of the greatest", x.turns(200), 0);
        due.is("words of the most words", new CountedOut().words(4, 99, 99, 99, 99, true), 8);
        due.is("ring of the most people", new CountedOut().ring(40), 10);
    }
}
