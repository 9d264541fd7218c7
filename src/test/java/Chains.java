/** What the tests need again and again. */
final class Chains {
    private Chains() {
    }

    /** Appends the text and runs it. */
    static int run(SluiceChain chain, String text) {
        type(chain, text);
        return chain.run();
    }

    static void type(SluiceChain chain, String text) {
        for (int i = 0; i < text.length(); i++) {
            chain.append(text.charAt(i));
        }
    }

    static String chainLine(SluiceChain chain) {
        return line(chain, chain.writeChain());
    }

    static String forecastLine(SluiceChain chain) {
        return line(chain, chain.writeForecast());
    }

    static String line(SluiceChain chain, int length) {
        StringBuilder text = new StringBuilder();
        for (int i = 0; i < length; i++) {
            text.append(chain.outputAt(i));
        }
        return text.toString();
    }

    /** All that undo, save and restore concern, but not what the undo history holds. */
    static String stateOf(SluiceChain chain) {
        StringBuilder text = new StringBuilder();
        text.append("time ").append(chain.time());
        text.append(" stored ").append(chain.stored());
        text.append(" accounts ").append(chain.storedByAccounts());
        text.append(" river ").append(chain.riverTotal());
        text.append(" forecast");
        for (int i = 0; i < chain.forecastLength(); i++) {
            text.append(' ').append(chain.rainAt(i));
        }
        for (int i = 0; i < chain.basinCount(); i++) {
            text.append(" [").append(chain.level(i));
            text.append(' ').append(chain.capacity(i));
            text.append(' ').append(chain.catchment(i));
            text.append(' ').append(chain.fieldValue(i));
            text.append(' ').append(chain.opening(i));
            text.append(' ').append(chain.isAutomatic(i) ? chain.threshold(i) : -1);
            text.append(' ').append(chain.spilled(i));
            text.append(' ').append(chain.floodedSteps(i)).append(']');
        }
        return text.toString();
    }

    /** How many calls can be undone; undoes them all. */
    static int undoAll(SluiceChain chain) {
        int undone = 0;
        boolean more = true;
        while (more && undone < 100) {
            try {
                chain.undo();
                undone++;
            } catch (IllegalStateException e) {
                more = false;
            }
        }
        return undone;
    }
}
