import java.util.function.Consumer;
import java.util.function.Function;
import java.util.function.Supplier;

/** Calls at the edges: which are taken, which are refused, and that a refused one leaves nothing behind. */
final class Refusals {
    private static final int UNDO_LIMIT = 8;

    /** A call with the argument that is tried. */
    interface Call {
        void on(FoodTruckRota rota, int value);
    }

    private Refusals() {
    }

    /** The call throws this on each square that the maker makes, and changes nothing that can be asked for. */
    static void refused(String call, Class<? extends RuntimeException> due, Supplier<FoodTruckRota> maker,
            Consumer<FoodTruckRota> body) {
        FoodTruckRota rota = maker.get();
        Check.fails(call, due, () -> body.accept(rota));
        Check.same(call + " leaves behind", traces(maker, body), traces(maker, untouched -> { }));
    }

    static void allRefused(String call, Class<? extends RuntimeException> due, Supplier<FoodTruckRota> maker, Call body,
            int... values) {
        for (int value : values) {
            refused(call + " with x = " + value, due, maker, rota -> body.on(rota, value));
        }
    }

    /** No value is refused, each on a square of its own. */
    static void allTaken(String call, Supplier<FoodTruckRota> maker, Call body, int... values) {
        for (int value : values) {
            try {
                body.on(maker.get(), value);
            } catch (RuntimeException e) {
                Check.same(call + " with x = " + value, e.toString(), "no exception");
            }
        }
    }

    /**
     * All that can be asked for after the call, undo, the snapshot, the output text and the script buffer included.
     * A fresh square for each part keeps every one of them far below its 512 calls.
     */
    static String traces(Supplier<FoodTruckRota> maker, Consumer<FoodTruckRota> call) {
        StringBuilder text = new StringBuilder(Rotas.all(after(maker, call)));
        for (int undone = 1; undone <= UNDO_LIMIT + 1; undone++) {
            FoodTruckRota rota = after(maker, call);
            text.append("\nundone ").append(undone).append(':');
            for (int change = 0; change < undone; change++) {
                text.append(' ').append(answer(rota, FoodTruckRota::undo));
            }
            text.append(' ').append(Rotas.all(rota));
        }
        FoodTruckRota restored = after(maker, call);
        text.append("\nrestored: ").append(answer(restored, FoodTruckRota::restore)).append(' ').append(Rotas.all(restored));
        return text.append(textsAfter(maker, call)).toString();
    }

    private static String textsAfter(Supplier<FoodTruckRota> maker, Consumer<FoodTruckRota> call) {
        FoodTruckRota rota = after(maker, call);
        StringBuilder text = new StringBuilder("\noutput: ").append(output(rota));
        text.append("\nlatest script: ").append(answer(rota, FoodTruckRota::errorPosition));
        text.append(' ').append(answer(rota, FoodTruckRota::failedCommand));
        text.append("\nbuffer: ").append(answer(rota, same -> same.type('k')));
        text.append(' ').append(answer(rota, FoodTruckRota::runScript)).append(' ').append(rota.truckCount());
        text.append(' ').append(answer(rota, FoodTruckRota::errorPosition));
        return text.append(' ').append(answer(rota, FoodTruckRota::failedCommand)).toString();
    }

    private static FoodTruckRota after(Supplier<FoodTruckRota> maker, Consumer<FoodTruckRota> call) {
        FoodTruckRota rota = maker.get();
        try {
            call.accept(rota);
        } catch (RuntimeException e) {
            return rota;
        }
        return rota;
    }

    private static String output(FoodTruckRota rota) {
        StringBuilder text = new StringBuilder();
        for (int index = 0; index < 60; index++) {
            try {
                text.append(rota.outputAt(index));
            } catch (IndexOutOfBoundsException e) {
                return text.toString();
            }
        }
        return text.toString();
    }

    /** What the call answers, or the name of what it throws. */
    static String answer(FoodTruckRota rota, Function<FoodTruckRota, Object> call) {
        try {
            return call.apply(rota).toString();
        } catch (RuntimeException e) {
            return e.getClass().getSimpleName();
        }
    }
}
