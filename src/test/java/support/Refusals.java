import java.util.List;

/** "A call that throws, or answers NONE, changes nothing": beside each object stands a twin without that call. */
final class Refusals {
    interface Call {
        long on(SoundStream x);
    }

    private final Check check;

    Refusals(Check check) {
        this.check = check;
    }

    /** Such a call is refused in every state. */
    void everywhere(String what, Class<? extends RuntimeException> due, Call call) {
        for (int i = 0; i < Recipes.ALL.length; i++) {
            refused(what + " of " + Recipes.NAMES[i], due, Recipes.ALL[i], call);
        }
    }

    void refused(String what, Class<? extends RuntimeException> due, Recipes.Recipe recipe, Call call) {
        SoundStream x = recipe.make();
        check.thrown(what, due, () -> call.on(x));
        sameAsTwin(what, x, recipe.make());
    }

    void none(String what, Recipes.Recipe recipe, Call call) {
        SoundStream x = recipe.make();
        check.due(what, call.on(x), -1);
        sameAsTwin(what, x, recipe.make());
    }

    private void sameAsTwin(String what, SoundStream x, SoundStream twin) {
        same(what + " changes nothing", State.of(x), State.of(twin));
        same(what + " changes nothing that shows later", State.afterUse(x), State.afterUse(twin));
    }

    private void same(String what, List<String> got, List<String> due) {
        check.due(what + ": answers seen", got.size(), due.size());
        for (int i = 0; i < Math.min(got.size(), due.size()); i++) {
            boolean alike = got.get(i).equals(due.get(i));
            check.due(alike ? what : what + ": " + got.get(i) + ", and without it " + due.get(i), alike ? 1 : 0, 1);
        }
    }
}
