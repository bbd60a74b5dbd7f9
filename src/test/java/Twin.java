import java.util.EnumSet;
import java.util.Set;

/** Two circuses made alike: what a call has changed in one of them shows against the other. */
final class Twin {
    private static final int MORE_CHANGES_THAN_UNDO_TAKES_BACK = 9;
    private static final int LONGEST_SCRIPT = 60;

    private Twin() {
    }

    interface Recipe {
        CircusLedger made();
    }

    interface Act {
        Object on(CircusLedger circus);
    }

    /**
     * The parts of a circus that a caller can see. Looking at one may change the others, so each look is at a circus
     * of its own; that also keeps each object below 512 calls.
     */
    enum View {
        STATE {
            @Override
            String of(CircusLedger c) {
                return Make.state(c);
            }
        },
        OUTPUT {
            @Override
            String of(CircusLedger c) {
                StringBuilder text = new StringBuilder();
                String sign = Check.outcome(() -> c.outputAt(0));
                for (int i = 1; sign.length() == 1; i++) {
                    int index = i;
                    text.append(sign);
                    sign = Check.outcome(() -> c.outputAt(index));
                }
                return text.toString();
            }
        },
        ERROR_POSITION {
            @Override
            String of(CircusLedger c) {
                return Check.outcome(c::errorPosition);
            }
        },
        FAILED_COMMAND {
            @Override
            String of(CircusLedger c) {
                return Check.outcome(c::failedCommand);
            }
        },
        SCRIPT_LENGTH {
            @Override
            String of(CircusLedger c) {
                return Check.outcome(() -> c.type(' '));
            }
        },
        SCRIPT {
            @Override
            String of(CircusLedger c) {
                return Check.outcome(c::runScript) + " at " + Check.outcome(c::errorPosition) + " or "
                        + Check.outcome(c::failedCommand) + ": " + Make.state(c);
            }
        },
        CHANGES {
            @Override
            String of(CircusLedger c) {
                StringBuilder text = new StringBuilder();
                for (int i = 0; i < MORE_CHANGES_THAN_UNDO_TAKES_BACK; i++) {
                    text.append(Check.outcome(c::undo)).append(": ").append(Make.briefState(c)).append("; ");
                }
                return text.toString();
            }
        },
        SNAPSHOT {
            @Override
            String of(CircusLedger c) {
                return Check.outcome(c::restore) + ": " + Make.state(c) + ", " + Check.outcome(c::undo);
            }
        };

        abstract String of(CircusLedger c);
    }

    /** The call must be refused, and leave the circus as one on which nobody has tried it. */
    static void refuses(String what, Class<? extends RuntimeException> due, Recipe recipe, Act act) {
        alike(what, EnumSet.allOf(View.class), recipe, () -> {
            CircusLedger tried = recipe.made();
            Check.refused(what, due, () -> act.on(tried));
            return tried;
        });
    }

    /** A script that is typed into an empty buffer is refused; but for the buffer and one view nothing changes. */
    static void refusesScript(String what, Class<? extends RuntimeException> due, View told, int index, Recipe recipe,
            String script) {
        Check.same(what + " is not too long", true, script.length() <= LONGEST_SCRIPT);
        Recipe tried = () -> {
            CircusLedger circus = recipe.made();
            Make.type(circus, script);
            Check.refused(what, due, circus::runScript);
            return circus;
        };
        Check.same(what + ": " + told, String.valueOf(index), told.of(tried.made()));
        // What the next script tells is the error position or the failed command again.
        alike(what, EnumSet.complementOf(EnumSet.of(told, View.SCRIPT)), recipe, tried);
    }

    /** The call answers, and leaves the circus as one on which nobody has made it. */
    static void onlyAnswers(String what, Set<View> views, Recipe recipe, Act act) {
        alike(what, views, recipe, () -> {
            CircusLedger asked = recipe.made();
            act.on(asked);
            return asked;
        });
    }

    static void alike(String what, Set<View> views, Recipe due, Recipe got) {
        for (View view : views) {
            Check.same(what + " leaves " + view, view.of(due.made()), view.of(got.made()));
        }
    }
}
