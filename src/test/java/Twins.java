import java.util.List;

/** Two objects made alike, one of which has had a call: what the call changed is what tells them apart. */
final class Twins {
    static final int NO_REFUSAL = 0;

    private static final int BAD = -2;

    interface Call {
        long on(TwoWhistlesAndFiveEwes x);
    }

    interface Start {
        TwoWhistlesAndFiveEwes made();
    }

    private Twins() {
    }

    /** The call is refused by this number, and nothing but the count of such refusals is another behind it. */
    static void refused(Due due, String name, Start start, Call call, int number) {
        compare(due, name, start, call, number, number);
    }

    /** The call has this answer, and nothing is another behind it. */
    static void unchanged(Due due, String name, Start start, Call call, long answer) {
        compare(due, name, start, call, answer, NO_REFUSAL);
    }

    /** Nothing is another behind the call, whatever it answers, but the count of REFUSALS if that is one. */
    static void changesNothing(Due due, String name, Start start, Call call) {
        long answer = call.on(start.made());
        compare(due, name, start, call, answer, answer <= BAD ? (int) answer : NO_REFUSAL);
    }

    private static void compare(Due due, String name, Start start, Call call, long answer, int refusal) {
        TwoWhistlesAndFiveEwes had = start.made();
        due.is(name, call.on(had), answer);
        areAlike(due, name, had, start.made(), refusal);
    }

    /** All is alike, but for one refusal of this number that the first had more. */
    static void areAlike(Due due, String name, TwoWhistlesAndFiveEwes had, TwoWhistlesAndFiveEwes twin, int refusal) {
        List<Long> got = Seen.of(had);
        List<Long> want = Seen.of(twin);
        due.is(name + ": as much to be seen", got.size(), want.size());
        for (int i = 0; i < want.size() && i < got.size(); i++) {
            due.is(name + ": seen at " + i, got.get(i), want.get(i) + (i == BAD - refusal ? 1 : 0));
        }
    }
}
