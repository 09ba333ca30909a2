/** All that calls can tell of a cooperative: its state, what undo and restore bring, its texts. */
final class Probe {
    interface Recipe {
        CricketCooperative make();
    }

    interface Call {
        void on(CricketCooperative c);
    }

    private static final int MORE_THAN_UNDONE = 9;

    private Probe() {
    }

    static String of(Recipe recipe) {
        return withoutTyped(recipe) + typed(recipe);
    }

    /** Each look takes an object of its own, for it changes the object or uses up its 512 calls. */
    static String withoutTyped(Recipe recipe) {
        StringBuilder text = new StringBuilder();
        for (int undone = 0; undone <= MORE_THAN_UNDONE; undone++) {
            text.append(undone).append(" undone: ").append(undone(recipe.make(), undone));
        }
        text.append("restored: ").append(restored(recipe.make()));
        return text.append("written: ").append(line(recipe.make())).append('\n').toString();
    }

    /** The text buffer is told by a run of it, and by what can be appended. */
    private static String typed(Recipe recipe) {
        StringBuilder text = new StringBuilder("stored: ");
        text.append(answer(recipe.make()::errorPosition)).append(' ');
        text.append(answer(recipe.make()::failedCommand)).append('\n');
        CricketCooperative c = recipe.make();
        text.append("run: ").append(answer(c::run)).append(' ').append(answer(c::errorPosition));
        text.append(' ').append(answer(c::failedCommand)).append(' ').append(View.of(c));
        return text.append('\n').append("appended: ")
                .append(answer(() -> recipe.make().append('x'))).append('\n').toString();
    }

    private static String undone(CricketCooperative c, int calls) {
        StringBuilder text = new StringBuilder();
        for (int call = 0; call < calls; call++) {
            text.append(answer(c::undo)).append(' ');
        }
        return text.append(View.of(c)).append('\n').toString();
    }

    private static String restored(CricketCooperative c) {
        StringBuilder text = new StringBuilder();
        text.append(answer(() -> {
            c.restore();
            return 0;
        }));
        return text.append(' ').append(View.of(c)).append(answer(c::undo)).append('\n').toString();
    }

    private static String line(CricketCooperative c) {
        StringBuilder text = new StringBuilder();
        for (int index = 0; index < 20; index++) {
            int place = index;
            text.append(answer(() -> (int) c.outputAt(place))).append(' ');
        }
        return text.toString();
    }

    interface Answer {
        int give();
    }

    private static String answer(Answer call) {
        try {
            return String.valueOf(call.give());
        } catch (RuntimeException e) {
            return e.getClass().getName();
        }
    }
}
