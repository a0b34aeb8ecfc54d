/** Two keepers with the same calls behind them, of which only one is asked what it has to refuse. */
final class Twin {
    interface Maker {
        Fixityhall make();
    }

    interface Use {
        long on(Fixityhall x);
    }

    interface UseOfNumber {
        long on(Fixityhall x, int number);
    }

    private Twin() {
    }

    /** The call throws what is due, and all that is seen and done afterwards is as if it had not been made. */
    static void refuses(String what, Class<?> due, Maker maker, Use use) {
        Fixityhall asked = maker.make();
        Check.refuses(what, due, () -> use.on(asked));
        Check.same(what + ": what is there afterwards", Story.of(maker.make()), Story.of(asked));
    }

    static void refusesEach(String what, Class<?> due, Maker maker, int[] numbers, UseOfNumber use) {
        for (int number : numbers) {
            refuses(what + " " + number, due, maker, x -> use.on(x, number));
        }
    }
}
