/** Two objects that are made alike: what one of them is asked or refuses leaves it as the other. */
final class Twins {
    /** How both are made. */
    interface Making {
        BambooBlind make();
    }

    /** A call, or some. */
    interface Call {
        void on(BambooBlind blind);
    }

    private Twins() {
    }

    static void noPlace(String what, Making making, Call call) {
        refuses(what, "IndexOutOfBoundsException", making, call);
    }

    static void noValue(String what, Making making, Call call) {
        refuses(what, "IllegalArgumentException", making, call);
    }

    static void noState(String what, Making making, Call call) {
        refuses(what, "IllegalStateException", making, call);
    }

    private static void refuses(String what, String exception, Making making, Call call) {
        BambooBlind refusing = making.make();
        Check.same(what, Check.thrownBy(() -> call.on(refusing)), exception);
        Check.same("nothing changes by refusing " + what, State.whole(refusing),
                State.whole(making.make()));
    }

    /** The calls may not change anything, whatever they answer. */
    static void unchanged(String what, Making making, Call call) {
        BambooBlind asked = making.make();
        call.on(asked);
        Check.same("nothing changes by " + what, State.whole(asked), State.whole(making.make()));
    }

    /** The call may change the blind and what can be undone alone. */
    static void restUnchanged(String what, Making making, Call call) {
        BambooBlind changed = making.make();
        call.on(changed);
        Check.same("the rest stays by " + what, State.butTheBlind(changed),
                State.butTheBlind(making.make()));
    }

    /** The call refuses; nothing but the buffer and the error may change. */
    static void textRefused(String what, Making making, Call call) {
        BambooBlind refusing = making.make();
        Check.noValue(what, () -> call.on(refusing));
        Check.same("the buffer is empty: " + what, State.bufferLength(refusing), 0);
        Check.same("nothing else changes by refusing " + what, State.butTextAndError(refusing),
                State.butTextAndError(making.make()));
    }

    /**
     * An object of which everything can be told from another: its second slat is tied, the right
     * face of its first one bears no coat more, three changes can be undone, another state is
     * saved, there is a report and an error, and the buffer holds a text.
     */
    static BambooBlind used() {
        BambooBlind blind = Blinds.of("high 2;coats 2;slat 2 right 1;slat 1;box left 0 0 9 9 3;"
                + "box right 1 0 1 1 5;");
        blind.dab(0, false, 0, 0, 7);
        blind.save();
        blind.paint(0, true);
        blind.tie(1, true);
        blind.report(6);
        Blinds.feed(blind, "pull");
        Check.noValue("a script with an error", blind::runScript);
        Blinds.feed(blind, "slat 4;high 3;");
        return blind;
    }
}
