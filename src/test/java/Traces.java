/** All that calls can tell of an object; each part is asked of an object made anew. */
final class Traces {
    private interface Answer {
        Object get();
    }

    private Traces() {
    }

    static String of(Edges.Maker maker) {
        return kept(maker) + stored(maker) + text(maker);
    }

    /** What a run that is refused leaves alone. */
    static String kept(Edges.Maker maker) {
        SluiceChain chain = maker.make();
        String text = Chains.stateOf(chain) + "\nline <" + lineOf(chain) + ">";
        return text + "\nundo" + undoing(chain) + "\nrestore" + restoring(maker.make());
    }

    /** What a run that is refused stores. */
    static String stored(Edges.Maker maker) {
        SluiceChain chain = maker.make();
        return "\nerror position " + outcome(chain::errorPosition)
                + "\nfailed command " + outcome(chain::failedCommand);
    }

    /** The text buffer, by its length, by its effect and by where it breaks off. */
    static String text(Edges.Maker maker) {
        SluiceChain longer = maker.make();
        SluiceChain run = maker.make();
        return "\nappend " + outcome(() -> longer.append(';'))
                + " run " + outcome(longer::run) + stored(() -> longer)
                + "\nrun " + outcome(run::run) + ' ' + Chains.stateOf(run) + stored(() -> run);
    }

    static String lineOf(SluiceChain chain) {
        StringBuilder text = new StringBuilder();
        for (int i = 0; i < 1000; i++) {
            try {
                text.append(chain.outputAt(i));
            } catch (IndexOutOfBoundsException e) {
                return text.toString();
            }
        }
        return "without an end";
    }

    private static String undoing(SluiceChain chain) {
        StringBuilder text = new StringBuilder();
        String answer = "";
        for (int i = 0; i < 20 && !answer.startsWith("throws"); i++) {
            answer = outcome(chain::undo);
            text.append('\n').append(answer).append(' ').append(Chains.stateOf(chain));
        }
        return text.toString();
    }

    /** Undoes a call if one can be undone. */
    static boolean canUndo(SluiceChain chain) {
        return !outcome(chain::undo).startsWith("throws");
    }

    private static String restoring(SluiceChain chain) {
        String answer = outcome(() -> {
            chain.restore();
            return "done";
        });
        return '\n' + answer + ' ' + Chains.stateOf(chain);
    }

    private static String outcome(Answer answer) {
        try {
            return "" + answer.get();
        } catch (RuntimeException e) {
            return "throws " + e.getClass().getSimpleName();
        }
    }
}
