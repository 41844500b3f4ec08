import java.util.List;
import java.util.function.Consumer;
import java.util.function.ToLongFunction;

/**
 * "A call that throws changes nothing": of two pictures that are used alike one gets each refused call between, and
 * both answer alike from then on. And "An object is used for at most 512 calls": the last of these is still right.
 */
public final class TwinTests {
    private static final int CALLS = 512;
    private static final int MIN = Integer.MIN_VALUE;
    private static final int MAX = Integer.MAX_VALUE;
    private static int refused = 0;

    public static void main(String[] args) {
        for (int first = 0; first < MADE.size(); first++) {
            twins(first);
        }
        for (int last = 0; last < MADE.size(); last++) {
            lastCall(last);
        }
        lastCallRefused();
        Check.end();
    }

    /** Calls that change the picture, in an order in which each shows what those before it left. */
    private static final List<ToLongFunction<LocalBounds>> MADE = List.<ToLongFunction<LocalBounds>>of(
        picture -> picture.paint(40, 37),
        LocalBounds::global,
        LocalBounds::edges,
        picture -> picture.local(3, 2),
        picture -> picture.clean(2),
        picture -> picture.spread(0),
        picture -> picture.told(3),
        LocalBounds::rest,
        LocalBounds::invert,
        picture -> picture.put(3, 2, 9),
        picture -> picture.spread(1),
        picture -> picture.sum(1, 1, 3, 2, true),
        picture -> picture.clean(7),
        picture -> picture.ordered(4),
        picture -> picture.told(4),
        picture -> picture.join(60, 140),
        picture -> picture.cell(8, 9, 20),
        picture -> picture.spread(2),
        LocalBounds::rest,
        picture -> picture.at(4, 3) ? 1 : 0,
        TwinTests::cleared);

    private static long cleared(LocalBounds picture) {
        picture.clear();
        return 0;
    }

    private static final List<Consumer<LocalBounds>> REFUSED = List.<Consumer<LocalBounds>>of(
        picture -> picture.put(-1, 0, 5),
        picture -> picture.put(5, 0, 5),
        picture -> picture.put(0, 4, 5),
        picture -> picture.put(0, 0, -1),
        picture -> picture.put(4, 3, 256),
        picture -> picture.local(2, 0),
        picture -> picture.local(33, 0),
        picture -> picture.local(-1, 0),
        picture -> picture.local(3, -1),
        picture -> picture.local(3, 65),
        picture -> picture.spread(-1),
        picture -> picture.spread(3),
        picture -> picture.ordered(0),
        picture -> picture.ordered(3),
        picture -> picture.ordered(16),
        picture -> picture.join(-2, 100),
        picture -> picture.join(100, 99),
        picture -> picture.join(100, 256),
        picture -> picture.clean(-1),
        picture -> picture.clean(257),
        picture -> picture.at(5, 0),
        picture -> picture.at(0, -1),
        picture -> picture.sum(0, 0, 6, 1, false),
        picture -> picture.sum(0, 0, -1, 1, true),
        picture -> picture.sum(5, 0, 1, 1, true),
        picture -> picture.sum(MAX, 0, MAX, 1, true),
        picture -> picture.cell(3, 0, 0),
        picture -> picture.cell(4, -1, 0),
        picture -> picture.cell(4, 0, MIN));

    /** Begins with another call each time; both pictures stay within their 512 calls. */
    private static void twins(int first) {
        LocalBounds spared = new LocalBounds(5, 4);
        LocalBounds troubled = new LocalBounds(5, 4);
        spared.paint(200, -91);
        troubled.paint(200, -91);
        for (int i = 0; i < MADE.size(); i++) {
            int call = (first + i) % MADE.size();
            for (int j = 0; j < 15; j++) {
                refuse(troubled);
            }
            String what = "call " + call + " after refused ones, begun with " + first;
            Check.same(what, MADE.get(call).applyAsLong(troubled), MADE.get(call).applyAsLong(spared));
        }
        Check.same("all, begun with " + first, Check.state(troubled), Check.state(spared));
    }

    /** Goes round through the refused calls, so that each comes between all others. */
    private static void refuse(LocalBounds picture) {
        int call = refused % REFUSED.size();
        refused++;
        boolean isThrown = !Check.thrownBy(() -> REFUSED.get(call).accept(picture)).equals("nothing");
        Check.same("refused call " + call, isThrown, true);
    }

    /** The same calls, and the same answers, in a picture's 512th call as in a new one's first few. */
    private static void lastCall(int last) {
        LocalBounds old = new LocalBounds(5, 4);
        for (int i = 0; i < CALLS - 6; i++) {
            MADE.get(i % MADE.size()).applyAsLong(old);
        }
        LocalBounds young = new LocalBounds(5, 4);
        prepare(old);
        prepare(young);
        long got = MADE.get(last).applyAsLong(old);
        Check.same("call " + last + " as the 512th", got, MADE.get(last).applyAsLong(young));
    }

    private static void prepare(LocalBounds picture) {
        picture.clear();
        picture.paint(17, 29);
        picture.put(2, 2, 250);
        picture.spread(1);
        picture.global();
    }

    private static void lastCallRefused() {
        for (Consumer<LocalBounds> call : REFUSED) {
            LocalBounds picture = new LocalBounds(5, 4);
            for (int i = 0; i < CALLS - 1; i++) {
                picture.invert();
            }
            boolean isThrown = !Check.thrownBy(() -> call.accept(picture)).equals("nothing");
            Check.same("a refused call as the 512th", isThrown, true);
        }
    }
}
