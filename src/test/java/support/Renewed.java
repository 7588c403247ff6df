/**
 * "An object is used for at most 512 calls": where a test looks at more than that, the object is made anew in between, by
 * the same calls.
 */
final class Renewed {
    private static final int MOST_CALLS = 512;

    private final Recipes.Recipe recipe;
    private final int callsOfRecipe;
    private SoundStream x;
    private int used = MOST_CALLS;

    Renewed(Recipes.Recipe recipe, int callsOfRecipe) {
        if (callsOfRecipe >= MOST_CALLS) {
            throw new IllegalArgumentException("no call is left");
        }
        this.recipe = recipe;
        this.callsOfRecipe = callsOfRecipe;
    }

    /** The object for one call that changes nothing. */
    SoundStream once() {
        if (used == MOST_CALLS) {
            x = recipe.make();
            used = callsOfRecipe;
        }
        used++;
        return x;
    }
}
