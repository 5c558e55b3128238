import java.util.NoSuchElementException;
import java.util.function.Consumer;
import java.util.function.Supplier;

/**
 * Each "Throws" row of the promises: the first values that are refused on either side, the last ones that are taken,
 * and that the refused call changes nothing. Most start from Rotas.busy, which has 3 trucks.
 */
final class ThrowsTests {
    private static final Class<IndexOutOfBoundsException> INDEX = IndexOutOfBoundsException.class;
    private static final Class<IllegalArgumentException> ARGUMENT = IllegalArgumentException.class;
    private static final Class<IllegalStateException> STATE = IllegalStateException.class;
    private static final Class<NoSuchElementException> ELEMENT = NoSuchElementException.class;
    private static final Class<UnsupportedOperationException> UNSUPPORTED = UnsupportedOperationException.class;
    private static final Class<ArithmeticException> ARITHMETIC = ArithmeticException.class;

    private static final int LOW = Integer.MIN_VALUE;
    private static final int HIGH = Integer.MAX_VALUE;
    // 32 and 256 would come back as 0 from a shift or a cast to a byte, 14 and -7 from a modulo.
    private static final int[] NO_TRUCK = {-1, 3, 4, 5, 6, 256, LOW, HIGH};
    private static final int[] NO_DISH = {-1, 4, 5, 256, LOW, HIGH};
    private static final int[] NO_PITCH = {-1, 5, 6, 256, LOW, HIGH};
    private static final int[] NO_WEEKDAY = {-1, 7, 8, 14, -7, 32, LOW, HIGH};

    private static final String TRUCK_ROW = "if there is no such truck";
    private static final String TRUCK_OR_DISH_ROW = "if there is no such truck, or no such dish";
    private static final String WEEKDAY_ROW = "if weekday is not between 0 and 6";

    private ThrowsTests() {
    }

    static void run() {
        runChanges();
        runRotaQuestions();
        runOtherQuestions();
        runTexts();
        runUndo();
    }

    private static void runChanges() {
        Sentences.testThrows(2, STATE, "if there are 6 trucks", ThrowsTests::addTruck);
        Sentences.testThrows(3, INDEX, TRUCK_OR_DISH_ROW, ThrowsTests::addStockIndex);
        Sentences.testThrows(3, ARGUMENT, "if portions is not between 1 and 50", ThrowsTests::addStockArgument);
        Sentences.testThrows(3, STATE, "if the stock would be greater than 99", ThrowsTests::addStockState);
        Sentences.testThrows(4, INDEX, "if there is no such dish", ThrowsTests::setPriceIndex);
        Sentences.testThrows(4, ARGUMENT, "if coins is not between 1 and 20", ThrowsTests::setPriceArgument);
        Sentences.testThrows(5, INDEX, TRUCK_ROW, ThrowsTests::grantPermitIndex);
        Sentences.testThrows(5, ARGUMENT, WEEKDAY_ROW, ThrowsTests::grantPermitArgument);
        Sentences.testThrows(5, STATE, "if the truck has this permit", ThrowsTests::grantPermitState);
        Sentences.testThrows(6, INDEX, TRUCK_ROW, ThrowsTests::revokePermitIndex);
        Sentences.testThrows(6, ARGUMENT, WEEKDAY_ROW, ThrowsTests::revokePermitArgument);
        Sentences.testThrows(6, STATE, "if the truck does not have this permit", ThrowsTests::revokePermitState);
        Sentences.testThrows(7, INDEX, "if there is no such truck, or no such pitch", ThrowsTests::assignIndex);
        Sentences.testThrows(7, ARGUMENT, WEEKDAY_ROW, ThrowsTests::assignArgument);
        Sentences.testThrows(7, UNSUPPORTED, "if the truck has no permit for this day of the week",
                ThrowsTests::assignUnsupported);
        Sentences.testThrows(7, STATE, "if the pitch is assigned on this day of the week, or the truck is",
                ThrowsTests::assignState);
        Sentences.testThrows(8, INDEX, "if there is no such pitch", ThrowsTests::releaseIndex);
        Sentences.testThrows(8, ARGUMENT, WEEKDAY_ROW, ThrowsTests::releaseArgument);
        Sentences.testThrows(8, ELEMENT, "if the pitch is not assigned on this day of the week", ThrowsTests::releaseElement);
        Sentences.testThrows(9, ARGUMENT, "if customers is not between 0 and 3", ThrowsTests::setWeather);
        Sentences.testThrows(10, ARGUMENT, "if minutes is not between 1 and 60", ThrowsTests::advance);
    }

    private static void runRotaQuestions() {
        Sentences.testThrows(12, INDEX, TRUCK_OR_DISH_ROW, ThrowsTests::stock);
        Sentences.testThrows(13, INDEX, TRUCK_ROW, () -> needsTruck("coins(x)", FoodTruckRota::coins));
        Sentences.testThrows(14, INDEX, "if there is no such dish", () -> needsDish("price(x)", FoodTruckRota::price));
        Sentences.testThrows(15, INDEX, TRUCK_ROW, () -> needsTruck("hasPermit(x, 0)", (rota, x) -> rota.hasPermit(x, 0)));
        Sentences.testThrows(15, ARGUMENT, WEEKDAY_ROW,
                () -> needsWeekday("hasPermit(0, x)", (rota, x) -> rota.hasPermit(0, x)));
        Sentences.testThrows(16, INDEX, "if there is no such pitch", ThrowsTests::truckAtIndex);
        Sentences.testThrows(16, ARGUMENT, WEEKDAY_ROW, ThrowsTests::truckAtArgument);
        Sentences.testThrows(16, ELEMENT, "if the pitch is not assigned on this day of the week", ThrowsTests::truckAtElement);
        Sentences.testThrows(17, INDEX, TRUCK_ROW, ThrowsTests::pitchOfIndex);
        Sentences.testThrows(17, ARGUMENT, WEEKDAY_ROW, ThrowsTests::pitchOfArgument);
        Sentences.testThrows(17, ELEMENT, "if the truck is not assigned on this day of the week", ThrowsTests::pitchOfElement);
        Sentences.testThrows(18, INDEX, TRUCK_ROW, () -> needsTruck("isOpen(x)", FoodTruckRota::isOpen));
        Sentences.testThrows(21, INDEX, TRUCK_ROW, ThrowsTests::firstFreeDayIndex);
        Sentences.testThrows(21, ELEMENT, "if there is no such day", ThrowsTests::firstFreeDayElement);
        Sentences.testThrows(22, ARGUMENT, WEEKDAY_ROW, () -> needsWeekday("firstFreePitch(x)", FoodTruckRota::firstFreePitch));
        Sentences.testThrows(22, ELEMENT, "if all pitches are assigned", ThrowsTests::firstFreePitchElement);
    }

    private static void runOtherQuestions() {
        Sentences.testThrows(23, INDEX, TRUCK_ROW, () -> needsTruck("queueLength(x)", FoodTruckRota::queueLength));
        Sentences.testThrows(24, INDEX, TRUCK_ROW, ThrowsTests::wantedDishIndex);
        Sentences.testThrows(24, ELEMENT, "if there is no such position", ThrowsTests::wantedDishElement);
        Sentences.testThrows(25, INDEX, TRUCK_ROW, () -> needsTruck("minutesLeft(x)", FoodTruckRota::minutesLeft));
        Sentences.testThrows(26, INDEX, TRUCK_ROW, () -> needsTruck("queueTime(x)", FoodTruckRota::queueTime));
        Sentences.testThrows(27, ARGUMENT, "if minutes is not between 0 and 60", ThrowsTests::servedWithin);
        Sentences.testThrows(28, ELEMENT, "if there is no such rank", ThrowsTests::truckByCoins);
        Sentences.testThrows(36, INDEX, "if there is no such dish",
                () -> needsDish("soldPortions(x)", FoodTruckRota::soldPortions));
        Sentences.testThrows(37, ARITHMETIC, "if there are no trucks", ThrowsTests::meanCoins);
        Sentences.testThrows(38, ARITHMETIC, "if no customer has arrived", ThrowsTests::servedShare);
    }

    private static void runTexts() {
        Sentences.testThrows(40, ARGUMENT, WEEKDAY_ROW, () -> needsWeekday("renderDay(x)", FoodTruckRota::renderDay));
        Sentences.testThrows(41, INDEX, TRUCK_ROW, () -> needsTruck("renderTruck(x)", FoodTruckRota::renderTruck));
        Sentences.testThrows(42, INDEX, "if there is no such index", ThrowsTests::outputAt);
        Sentences.testThrows(43, ARGUMENT, "if the character code is not between 32 and 126", ThrowsTests::typeArgument);
        Sentences.testThrows(43, STATE, "if the script buffer has 60 characters", ThrowsTests::typeState);
        Sentences.testThrows(44, ARGUMENT, "if the script does not have the required form; errorPosition then returns its error"
                + " position", ThrowsTests::runScriptArgument);
        Sentences.testThrows(44, STATE, "if the method for a command throws an exception; no command takes effect, and"
                + " failedCommand then returns the index of that command", ThrowsTests::runScriptState);
        Sentences.testThrows(45, ELEMENT, "if there was no such script", ThrowsTests::errorPosition);
        Sentences.testThrows(46, ELEMENT, "if there was no such script", ThrowsTests::failedCommand);
    }

    private static void runUndo() {
        Sentences.testThrows(47, ELEMENT, "if there is nothing to undo", ThrowsTests::undo);
        Sentences.testThrows(49, STATE, "if there is no snapshot", ThrowsTests::restore);
    }

    /** The busy square after more calls. */
    private static Supplier<FoodTruckRota> busyAnd(Consumer<FoodTruckRota> more) {
        return () -> {
            FoodTruckRota rota = Rotas.busy();
            more.accept(rota);
            return rota;
        };
    }

    private static void needsTruck(String call, Refusals.Call body) {
        needsTruck(call, untouched -> { }, body);
    }

    private static void needsTruck(String call, Consumer<FoodTruckRota> first, Refusals.Call body) {
        Refusals.allRefused(call, INDEX, busyAnd(first), body, NO_TRUCK);
        Refusals.allTaken(call, busyAnd(first), body, 0, 1, 2);
        Refusals.allRefused(call + " without trucks", INDEX, FoodTruckRota::new, body, -1, 0, 5);
        Supplier<FoodTruckRota> full = busyAnd(rota -> {
            Rotas.add(rota, 3);
            first.accept(rota);
        });
        Refusals.allTaken(call + " with 6 trucks", full, body, 0, 3, 5);
        Refusals.allRefused(call + " with 6 trucks", INDEX, full, body, -1, 6, 7);
    }

    private static void needsPitch(String call, Consumer<FoodTruckRota> first, Refusals.Call body) {
        Refusals.allRefused(call, INDEX, busyAnd(first), body, NO_PITCH);
        Refusals.allTaken(call, busyAnd(first), body, 0, 1, 2, 3, 4);
    }

    private static void needsDish(String call, Refusals.Call body) {
        Refusals.allRefused(call, INDEX, Rotas::busy, body, NO_DISH);
        Refusals.allTaken(call, Rotas::busy, body, 0, 1, 2, 3);
    }

    private static void needsWeekday(String call, Refusals.Call body) {
        needsWeekday(call, untouched -> { }, body);
    }

    private static void needsWeekday(String call, Consumer<FoodTruckRota> first, Refusals.Call body) {
        Refusals.allRefused(call, ARGUMENT, busyAnd(first), body, NO_WEEKDAY);
        Refusals.allTaken(call, busyAnd(first), body, 0, 1, 2, 3, 4, 5, 6);
    }

    private static void addTruck() {
        Supplier<FoodTruckRota> five = busyAnd(rota -> Rotas.add(rota, 2));
        Supplier<FoodTruckRota> six = busyAnd(rota -> Rotas.add(rota, 3));
        Check.same("the 6th addTruck()", five.get().addTruck(), 5);
        Refusals.refused("the 7th addTruck()", STATE, six, FoodTruckRota::addTruck);
        FoodTruckRota rota = six.get();
        rota.undo();
        Check.same("addTruck() after an undo", rota.addTruck(), 5);
        Check.fails("addTruck()", STATE, rota::addTruck);
    }

    private static void addStockIndex() {
        needsTruck("addStock(x, 2, 1)", (rota, x) -> rota.addStock(x, 2, 1));
        needsDish("addStock(2, x, 1)", (rota, x) -> rota.addStock(2, x, 1));
        FoodTruckRota rota = Rotas.busy();
        Check.fails("addStock(3, 3, 7)", INDEX, () -> rota.addStock(3, 3, 7));
        rota.addTruck();
        Check.same("addStock(3, 3, 7) after addTruck", rota.addStock(3, 3, 7), 7);
    }

    private static void addStockArgument() {
        Refusals.Call addStock = (rota, x) -> rota.addStock(0, 1, x);
        Refusals.allRefused("addStock(0, 1, x)", ARGUMENT, Rotas::busy, addStock, 0, 51, -1, 52, 99, 256, LOW, HIGH);
        Refusals.allTaken("addStock(0, 1, x)", Rotas::busy, addStock, 1, 2, 49, 50);
        Check.same("addStock(0, 1, 1)", Rotas.busy().addStock(0, 1, 1), 1);
        Check.same("addStock(0, 1, 50)", Rotas.busy().addStock(0, 1, 50), 50);
    }

    private static void addStockState() {
        Refusals.Call addStock = (rota, x) -> rota.addStock(2, 3, x);
        Supplier<FoodTruckRota> fifty = busyAnd(rota -> rota.addStock(2, 3, 50));
        Supplier<FoodTruckRota> nearlyFull = busyAnd(rota -> Rotas.run(rota, "k;stock 2 3 50;stock 2 3 48"));
        Supplier<FoodTruckRota> full = busyAnd(rota -> Rotas.run(rota, "k;stock 2 3 50;stock 2 3 49"));
        Check.same("50 and 49", fifty.get().addStock(2, 3, 49), 99);
        Refusals.allRefused("50 and x", STATE, fifty, addStock, 50);
        Check.same("98 and 1", nearlyFull.get().addStock(2, 3, 1), 99);
        Refusals.allRefused("98 and x", STATE, nearlyFull, addStock, 2, 3, 50);
        Refusals.allRefused("99 and x", STATE, full, addStock, 1, 2, 50);
        Check.same("another dish", full.get().addStock(2, 2, 50), 50);
        Check.same("another truck", full.get().addStock(1, 3, 50), 50);
    }

    private static void setPriceIndex() {
        needsDish("setPrice(x, 1)", (rota, x) -> rota.setPrice(x, 1));
    }

    private static void setPriceArgument() {
        Refusals.Call setPrice = (rota, x) -> rota.setPrice(2, x);
        Refusals.allRefused("setPrice(2, x)", ARGUMENT, Rotas::busy, setPrice, 0, 21, -1, 22, -5, 256, LOW, HIGH);
        Refusals.allTaken("setPrice(2, x)", Rotas::busy, setPrice, 1, 2, 19, 20);
        FoodTruckRota rota = Rotas.busy();
        Check.same("setPrice(2, 1)", rota.setPrice(2, 1), 5);
        Check.same("setPrice(2, 20)", rota.setPrice(2, 20), 1);
        Check.same("price(2)", rota.price(2), 20);
    }

    private static void grantPermitIndex() {
        needsTruck("grantPermit(x, 3)", (rota, x) -> rota.grantPermit(x, 3));
    }

    private static void grantPermitArgument() {
        needsWeekday("grantPermit(2, x)", (rota, x) -> rota.grantPermit(2, x));
    }

    private static void grantPermitState() {
        Refusals.Call grantPermit = (rota, x) -> rota.grantPermit(1, x);
        Refusals.allRefused("grantPermit(1, x)", STATE, Rotas::busy, grantPermit, 0, 6);
        Refusals.allTaken("grantPermit(1, x)", Rotas::busy, grantPermit, 1, 2, 3, 4, 5);
        Supplier<FoodTruckRota> all = busyAnd(rota -> Rotas.permitAll(rota, 2));
        Refusals.allRefused("grantPermit(2, x)", STATE, all, (rota, x) -> rota.grantPermit(2, x), 0, 1, 2, 3, 4, 5, 6);
        FoodTruckRota rota = all.get();
        rota.revokePermit(2, 4);
        Check.same("grantPermit(2, 4) after revokePermit", rota.grantPermit(2, 4), 7);
    }

    private static void revokePermitIndex() {
        needsTruck("revokePermit(x, 3)", rota -> permitOnDay(rota, 3), (rota, x) -> rota.revokePermit(x, 3));
    }

    /** Each truck gets a permit for a day for which none has one. */
    private static void permitOnDay(FoodTruckRota rota, int weekday) {
        for (int truck = 0; truck < rota.truckCount(); truck++) {
            rota.grantPermit(truck, weekday);
        }
    }

    private static void revokePermitArgument() {
        needsWeekday("revokePermit(2, x)", rota -> Rotas.permitAll(rota, 2), (rota, x) -> rota.revokePermit(2, x));
    }

    private static void revokePermitState() {
        Refusals.Call revokePermit = (rota, x) -> rota.revokePermit(1, x);
        Refusals.allRefused("revokePermit(1, x)", STATE, Rotas::busy, revokePermit, 1, 2, 3, 4, 5);
        Refusals.allTaken("revokePermit(1, x)", Rotas::busy, revokePermit, 0, 6);
        Refusals.allRefused("revokePermit(2, x)", STATE, Rotas::busy, (rota, x) -> rota.revokePermit(2, x), 0, 6);
        Refusals.refused("revokePermit(1, 6) again", STATE, busyAnd(rota -> rota.revokePermit(1, 6)),
                rota -> rota.revokePermit(1, 6));
    }

    private static void assignIndex() {
        needsTruck("assign(x, 1, 3)", rota -> permitOnDay(rota, 3), (rota, x) -> rota.assign(x, 1, 3));
        needsPitch("assign(2, x, 3)", rota -> permitOnDay(rota, 3), (rota, x) -> rota.assign(2, x, 3));
    }

    private static void assignArgument() {
        needsWeekday("assign(2, 1, x)", rota -> Rotas.permitAll(rota, 2), (rota, x) -> rota.assign(2, 1, x));
    }

    private static void assignUnsupported() {
        Refusals.Call assign = (rota, x) -> rota.assign(2, 1, x);
        Refusals.allRefused("assign(2, 1, x)", UNSUPPORTED, Rotas::busy, assign, 0, 1, 2, 3, 4, 5, 6);
        Supplier<FoodTruckRota> around = busyAnd(rota -> {
            rota.grantPermit(2, 2);
            rota.grantPermit(2, 4);
            rota.grantPermit(1, 3);
        });
        Refusals.allRefused("assign(2, 1, x)", UNSUPPORTED, around, assign, 0, 1, 3, 5, 6);
        Refusals.allTaken("assign(2, 1, x)", around, assign, 2, 4);
        Refusals.refused("assign after revokePermit", UNSUPPORTED, busyAnd(rota -> rota.revokePermit(1, 6)),
                rota -> rota.assign(1, 0, 6));
    }

    private static void assignState() {
        Supplier<FoodTruckRota> permitted = busyAnd(rota -> Rotas.permitAll(rota, 2));
        Refusals.Call pitchOnDay0 = (rota, x) -> rota.assign(2, x, 0);
        Refusals.allRefused("assign(2, x, 0), the pitch is assigned", STATE, permitted, pitchOnDay0, 0, 3);
        Refusals.allTaken("assign(2, x, 0), the pitch is free", permitted, pitchOnDay0, 1, 2, 4);
        Refusals.allTaken("assign(2, 0, x), assigned on another day", permitted, (rota, x) -> rota.assign(2, 0, x), 1, 6);
        Refusals.Call sameTruck = (rota, x) -> rota.assign(1, x, 6);
        Refusals.allRefused("assign(1, x, 6), the truck is assigned", STATE, Rotas::busy, sameTruck, 0, 1, 2, 3);
        Refusals.allRefused("assign(1, x, 6), both are assigned", STATE, Rotas::busy, sameTruck, 4);
        Refusals.allTaken("assign(1, x, 6) after release", busyAnd(rota -> rota.release(4, 6)), sameTruck, 0, 3, 4);
    }

    private static void releaseIndex() {
        Supplier<FoodTruckRota> all = () -> Rotas.open(5);
        Refusals.allRefused("release(x, 0)", INDEX, all, (rota, x) -> rota.release(x, 0), NO_PITCH);
        Refusals.allTaken("release(x, 0)", all, (rota, x) -> rota.release(x, 0), 0, 1, 2, 3, 4);
    }

    private static void releaseArgument() {
        needsWeekday("release(1, x)", ThrowsTests::standEveryDay, (rota, x) -> rota.release(1, x));
    }

    private static void releaseElement() {
        Refusals.allRefused("release(x, 0)", ELEMENT, Rotas::busy, (rota, x) -> rota.release(x, 0), 1, 2, 4);
        Refusals.allRefused("release(4, x)", ELEMENT, Rotas::busy, (rota, x) -> rota.release(4, x), 0, 1, 2, 3, 4, 5);
        Refusals.allTaken("release(x, 0)", Rotas::busy, (rota, x) -> rota.release(x, 0), 0, 3);
        Refusals.allTaken("release(4, x)", Rotas::busy, (rota, x) -> rota.release(4, x), 6);
        Refusals.refused("release(3, 0) again", ELEMENT, busyAnd(rota -> rota.release(3, 0)), rota -> rota.release(3, 0));
        Refusals.refused("release(3, 0) after revokePermit", ELEMENT, busyAnd(rota -> rota.revokePermit(1, 0)),
                rota -> rota.release(3, 0));
    }

    private static void setWeather() {
        Refusals.allRefused("setWeather(x)", ARGUMENT, Rotas::busy, FoodTruckRota::setWeather, -1, 4, 5, 256, LOW, HIGH);
        Refusals.allTaken("setWeather(x)", Rotas::busy, FoodTruckRota::setWeather, 0, 1, 2, 3);
    }

    private static void advance() {
        Refusals.allRefused("advance(x)", ARGUMENT, Rotas::busy, FoodTruckRota::advance, 0, 61, -1, 62, -60, 256, LOW, HIGH);
        Refusals.allTaken("advance(x)", Rotas::busy, FoodTruckRota::advance, 1, 2, 59, 60);
        FoodTruckRota rota = new FoodTruckRota();
        rota.advance(1);
        rota.advance(60);
        Check.same("day() and minute()", rota.day() + " " + rota.minute(), "1 1");
    }

    private static void stock() {
        needsTruck("stock(x, 3)", (rota, x) -> rota.stock(x, 3));
        needsDish("stock(2, x)", (rota, x) -> rota.stock(2, x));
    }

    private static void truckAtIndex() {
        Supplier<FoodTruckRota> all = () -> Rotas.open(5);
        Refusals.allRefused("truckAt(x, 0)", INDEX, all, (rota, x) -> rota.truckAt(x, 0), NO_PITCH);
        Refusals.allTaken("truckAt(x, 0)", all, (rota, x) -> rota.truckAt(x, 0), 0, 1, 2, 3, 4);
    }

    /** Truck 2 stands on pitch 1 on each day. */
    private static void standEveryDay(FoodTruckRota rota) {
        Rotas.permitAll(rota, 2);
        for (int weekday = 0; weekday < 7; weekday++) {
            rota.assign(2, 1, weekday);
        }
    }

    private static void truckAtArgument() {
        needsWeekday("truckAt(1, x)", ThrowsTests::standEveryDay, (rota, x) -> rota.truckAt(1, x));
    }

    private static void truckAtElement() {
        Refusals.allRefused("truckAt(x, 0)", ELEMENT, Rotas::busy, (rota, x) -> rota.truckAt(x, 0), 1, 2, 4);
        Refusals.allRefused("truckAt(4, x)", ELEMENT, Rotas::busy, (rota, x) -> rota.truckAt(4, x), 0, 1, 2, 3, 4, 5);
        Check.same("truckAt(0, 0)", Rotas.busy().truckAt(0, 0), 0);
        Check.same("truckAt(3, 0)", Rotas.busy().truckAt(3, 0), 1);
        Check.same("truckAt(4, 6)", Rotas.busy().truckAt(4, 6), 1);
        Refusals.refused("truckAt(0, 0) after release", ELEMENT, busyAnd(rota -> rota.release(0, 0)),
                rota -> rota.truckAt(0, 0));
    }

    private static void pitchOfIndex() {
        Supplier<FoodTruckRota> all = () -> Rotas.open(5);
        Refusals.allRefused("pitchOf(x, 0)", INDEX, all, (rota, x) -> rota.pitchOf(x, 0), -1, 5, 6, LOW, HIGH);
        Refusals.allTaken("pitchOf(x, 0)", all, (rota, x) -> rota.pitchOf(x, 0), 0, 1, 2, 3, 4);
    }

    private static void pitchOfArgument() {
        needsWeekday("pitchOf(2, x)", ThrowsTests::standEveryDay, (rota, x) -> rota.pitchOf(2, x));
    }

    private static void pitchOfElement() {
        Refusals.allRefused("pitchOf(1, x)", ELEMENT, Rotas::busy, (rota, x) -> rota.pitchOf(1, x), 1, 2, 3, 4, 5);
        Refusals.allRefused("pitchOf(2, x)", ELEMENT, Rotas::busy, (rota, x) -> rota.pitchOf(2, x), 0, 6);
        Check.same("pitchOf(0, 0)", Rotas.busy().pitchOf(0, 0), 0);
        Check.same("pitchOf(1, 0)", Rotas.busy().pitchOf(1, 0), 3);
        Check.same("pitchOf(1, 6)", Rotas.busy().pitchOf(1, 6), 4);
        Refusals.refused("pitchOf(2, 0), a permit but no pitch", ELEMENT, busyAnd(rota -> rota.grantPermit(2, 0)),
                rota -> rota.pitchOf(2, 0));
        Refusals.refused("pitchOf(1, 6) after revokePermit", ELEMENT, busyAnd(rota -> rota.revokePermit(1, 6)),
                rota -> rota.pitchOf(1, 6));
    }

    private static void firstFreeDayIndex() {
        needsTruck("firstFreeDay(x)", rota -> permitOnDay(rota, 3), FoodTruckRota::firstFreeDay);
    }

    private static void firstFreeDayElement() {
        Refusals.allRefused("firstFreeDay(x)", ELEMENT, Rotas::busy, FoodTruckRota::firstFreeDay, 0, 1, 2);
        Supplier<FoodTruckRota> full = () -> {
            FoodTruckRota rota = Rotas.open(5);
            rota.addTruck();
            rota.grantPermit(5, 0);
            return rota;
        };
        Refusals.refused("firstFreeDay(5), no free pitch", ELEMENT, full, rota -> rota.firstFreeDay(5));
        FoodTruckRota rota = full.get();
        rota.release(4, 0);
        Check.same("firstFreeDay(5) after release", rota.firstFreeDay(5), 0);
        Check.same("firstFreeDay(4) after release", rota.firstFreeDay(4), 0);
        rota.assign(5, 4, 0);
        Check.fails("firstFreeDay(4)", ELEMENT, () -> rota.firstFreeDay(4));
        rota.grantPermit(4, 6);
        Check.same("firstFreeDay(4)", rota.firstFreeDay(4), 6);
    }

    private static void firstFreePitchElement() {
        FoodTruckRota four = Rotas.open(4);
        Check.same("firstFreePitch(0), 4 are assigned", four.firstFreePitch(0), 4);
        Refusals.refused("firstFreePitch(0), 5 are assigned", ELEMENT, () -> Rotas.open(5), rota -> rota.firstFreePitch(0));
        Check.same("firstFreePitch(1)", Rotas.open(5).firstFreePitch(1), 0);
        FoodTruckRota rota = Rotas.open(5);
        rota.release(3, 0);
        Check.same("firstFreePitch(0) after release", rota.firstFreePitch(0), 3);
    }

    private static void wantedDishIndex() {
        Supplier<FoodTruckRota> queues = ThrowsTests::allWithQueues;
        Refusals.allRefused("wantedDish(x, 0)", INDEX, queues, (rota, x) -> rota.wantedDish(x, 0), -1, 5, 6, LOW, HIGH);
        Refusals.allTaken("wantedDish(x, 0)", queues, (rota, x) -> rota.wantedDish(x, 0), 0, 1, 2, 3, 4);
    }

    private static FoodTruckRota allWithQueues() {
        FoodTruckRota rota = Rotas.stocked(5, 9);
        rota.setWeather(3);
        rota.advance(7);
        return rota;
    }

    private static void wantedDishElement() {
        Refusals.Call wantedDish = (rota, x) -> rota.wantedDish(0, x);
        Refusals.allRefused("wantedDish(0, x), an empty queue", ELEMENT, () -> Rotas.open(1), wantedDish, -1, 0, 1, LOW, HIGH);
        Refusals.allRefused("wantedDish(2, x), a closed truck", ELEMENT, Rotas::busy, (rota, x) -> rota.wantedDish(2, x), 0);
        Supplier<FoodTruckRota> three = () -> Rotas.queueing(3);
        Refusals.allTaken("wantedDish(0, x), a queue of 3", three, wantedDish, 0, 1, 2);
        Refusals.allRefused("wantedDish(0, x), a queue of 3", ELEMENT, three, wantedDish, 3, 4, -1, 8, 256, LOW, HIGH);
        Supplier<FoodTruckRota> nine = () -> Rotas.queueing(9);
        Refusals.allTaken("wantedDish(0, x), a queue of 9", nine, wantedDish, 0, 7, 8);
        Refusals.allRefused("wantedDish(0, x), a queue of 9", ELEMENT, nine, wantedDish, 9, 10, -1, LOW, HIGH);
    }

    private static void servedWithin() {
        Refusals.Call servedWithin = FoodTruckRota::servedWithin;
        Refusals.allRefused("servedWithin(x)", ARGUMENT, Rotas::busy, servedWithin, -1, 61, -60, 62, 256, LOW, HIGH);
        Refusals.allTaken("servedWithin(x)", Rotas::busy, servedWithin, 0, 1, 59, 60);
    }

    private static void truckByCoins() {
        Refusals.Call truckByCoins = FoodTruckRota::truckByCoins;
        Refusals.allRefused("truckByCoins(x)", ELEMENT, Rotas::busy, truckByCoins, -1, 3, 4, 6, 256, LOW, HIGH);
        Refusals.allTaken("truckByCoins(x)", Rotas::busy, truckByCoins, 0, 1, 2);
        Refusals.allRefused("truckByCoins(x) without trucks", ELEMENT, FoodTruckRota::new, truckByCoins, -1, 0, 1);
        Refusals.allTaken("truckByCoins(x) with 6 trucks", () -> Rotas.trucks(6), truckByCoins, 0, 5);
        Refusals.allRefused("truckByCoins(x) with 6 trucks", ELEMENT, () -> Rotas.trucks(6), truckByCoins, -1, 6);
    }

    private static void meanCoins() {
        Refusals.refused("meanCoins()", ARITHMETIC, FoodTruckRota::new, FoodTruckRota::meanCoins);
        Check.same("meanCoins() of one truck", Rotas.trucks(1).meanCoins(), 0.0);
        Refusals.refused("meanCoins() after undo", ARITHMETIC, () -> {
            FoodTruckRota rota = Rotas.trucks(1);
            rota.undo();
            return rota;
        }, FoodTruckRota::meanCoins);
    }

    private static void servedShare() {
        Refusals.refused("servedShare()", ARITHMETIC, FoodTruckRota::new, FoodTruckRota::servedShare);
        Supplier<FoodTruckRota> noCustomers = () -> {
            FoodTruckRota rota = Rotas.stocked(1, 9);
            rota.setWeather(0);
            rota.advance(60);
            return rota;
        };
        Refusals.refused("servedShare() in weather 0", ARITHMETIC, noCustomers, FoodTruckRota::servedShare);
        FoodTruckRota rota = new FoodTruckRota();
        rota.advance(1);
        Check.same("servedShare() after a lost customer", rota.servedShare(), 0.0f);
        rota.undo();
        Check.fails("servedShare() after undo", ARITHMETIC, rota::servedShare);
    }

    private static void outputAt() {
        Refusals.Call outputAt = FoodTruckRota::outputAt;
        Refusals.allRefused("outputAt(x) of the empty text", INDEX, FoodTruckRota::new, outputAt, -1, 0, 1, LOW, HIGH);
        Supplier<FoodTruckRota> day = busyAnd(rota -> rota.renderDay(0));
        Refusals.allTaken("outputAt(x) of a day", day, outputAt, 0, 1, 2, 3, 4);
        Refusals.allRefused("outputAt(x) of a day", INDEX, day, outputAt, -1, 5, 6, 12, 256, LOW, HIGH);
        Supplier<FoodTruckRota> truck = busyAnd(rota -> rota.renderTruck(2));
        Refusals.allTaken("outputAt(x) of a truck", truck, outputAt, 0, 11);
        Refusals.allRefused("outputAt(x) of a truck", INDEX, truck, outputAt, -1, 12, 13, LOW, HIGH);
    }

    private static void typeArgument() {
        Refusals.Call type = (rota, x) -> rota.type((char) x);
        Refusals.allRefused("type(x)", ARGUMENT, Rotas::busy, type, 31, 127, 0, 1, 9, 10, 13, 30, 128, 160, 255, 256 + 65,
                0x7fff, 0x8000, 0xffff);
        Refusals.allTaken("type(x)", Rotas::busy, type, 32, 33, 48, 59, 65, 97, 125, 126);
    }

    private static FoodTruckRota withBuffer(int length) {
        FoodTruckRota rota = Rotas.busy();
        Rotas.typeAll(rota, "k" + ";wait".repeat(11).substring(0, length - 5));
        return rota;
    }

    private static void typeState() {
        Refusals.Call type = (rota, x) -> rota.type((char) x);
        Check.same("the 59th type", withBuffer(58).type(' '), 59);
        Check.same("the 60th type", withBuffer(59).type(' '), 60);
        Refusals.allRefused("the 61st type", STATE, () -> withBuffer(60), type, 32, 59, 97, 126);
        FoodTruckRota rota = withBuffer(60);
        Check.same("runScript() of 60 characters", rota.runScript(), 12);
        Check.same("type after runScript", rota.type('x'), 1);
    }

    private static void runScriptArgument() {
        Check.fails("runScript() of the empty buffer", ARGUMENT, () -> new FoodTruckRota().runScript());
        FoodTruckRota empty = new FoodTruckRota();
        Check.fails("runScript()", ARGUMENT, empty::runScript);
        Check.same("errorPosition() of the empty buffer", empty.errorPosition(), 0);
        for (String wrong : new String[] {"truck;wait 3;", "truck;wait 3;free 0", "truck;weather 0;Truck", ";truck"}) {
            FoodTruckRota rota = Rotas.busy();
            Check.fails("the buffer of before", IllegalArgumentException.class, () -> Rotas.run(rota, "x"));
            String before = Rotas.all(rota);
            Check.fails(wrong, ARGUMENT, () -> Rotas.run(rota, wrong));
            Check.same("all after " + wrong, Rotas.all(rota), before);
            Check.same("failedCommand() after " + wrong, rota.failedCommand(), 1);
            Check.same("errorPosition() of " + wrong, rota.errorPosition(), wrong.startsWith(";") ? 0
                    : wrong.endsWith("Truck") ? 16 : wrong.length());
            Check.same("type after " + wrong, rota.type('t'), 1);
            Check.same("undo() after " + wrong, rota.undo(), 7);
            Check.same("minute() after the undo", rota.minute(), 0);
        }
    }

    private static void runScriptState() {
        String[] scripts = {"k;truck;truck;truck;wait", "k;wait 60;weather 0;wait 0", "k;revoke 0 0;free 3 0;free 3 0;wait"};
        for (String script : scripts) {
            FoodTruckRota rota = Rotas.busy();
            String before = Rotas.all(rota);
            Check.fails(script, STATE, () -> Rotas.run(rota, script));
            Check.same("all after " + script, Rotas.all(rota), before);
            Check.same("failedCommand() of " + script, rota.failedCommand(), 3);
            Check.same("errorPosition() after " + script, rota.errorPosition(), 5);
            Check.same("type after " + script, rota.type('t'), 1);
            Check.same("undo() after " + script, rota.undo(), 7);
            Check.same("minute() after the undo", rota.minute(), 0);
        }
        Check.same("the last that is taken", Rotas.run(Rotas.busy(), "k;truck;truck;wait"), 4);
    }

    private static void errorPosition() {
        Refusals.refused("errorPosition()", ELEMENT, FoodTruckRota::new, FoodTruckRota::errorPosition);
        FoodTruckRota rota = new FoodTruckRota();
        Rotas.run(rota, "truck");
        Check.fails("errorPosition() after a good script", ELEMENT, rota::errorPosition);
        Check.fails("a failing script", STATE, () -> Rotas.run(rota, "wait 0"));
        Check.fails("errorPosition() after a failing script", ELEMENT, rota::errorPosition);
        Rotas.typeAll(rota, "x");
        Check.fails("errorPosition() before the run", ELEMENT, rota::errorPosition);
        Check.fails("runScript()", ARGUMENT, rota::runScript);
        Check.same("errorPosition()", rota.errorPosition(), 0);
    }

    private static void failedCommand() {
        Refusals.refused("failedCommand()", ELEMENT, FoodTruckRota::new, FoodTruckRota::failedCommand);
        FoodTruckRota rota = new FoodTruckRota();
        Rotas.run(rota, "truck");
        Check.fails("failedCommand() after a good script", ELEMENT, rota::failedCommand);
        Check.fails("a wrong form", ARGUMENT, () -> Rotas.run(rota, "x"));
        Check.fails("failedCommand() after a wrong form", ELEMENT, rota::failedCommand);
        Check.fails("a method that is refused", ARGUMENT, () -> rota.advance(0));
        Check.fails("failedCommand() after a refused method", ELEMENT, rota::failedCommand);
        Check.fails("a failing script", STATE, () -> Rotas.run(rota, "wait 0"));
        Check.same("failedCommand()", rota.failedCommand(), 0);
    }

    private static void undo() {
        Refusals.refused("undo() of a new object", ELEMENT, FoodTruckRota::new, FoodTruckRota::undo);
        Supplier<FoodTruckRota> undone = busyAnd(rota -> {
            for (int left = 7; left >= 0; left--) {
                Check.same("undo()", rota.undo(), left);
            }
        });
        Refusals.refused("the 9th undo()", ELEMENT, undone, FoodTruckRota::undo);
        Refusals.refused("undo() after restore", ELEMENT, busyAnd(FoodTruckRota::restore), FoodTruckRota::undo);
    }

    private static void restore() {
        Supplier<FoodTruckRota> unsaved = () -> {
            FoodTruckRota rota = Rotas.stocked(2, 9);
            rota.advance(9);
            return rota;
        };
        Refusals.refused("restore()", STATE, FoodTruckRota::new, FoodTruckRota::restore);
        Refusals.refused("restore() after changes", STATE, unsaved, FoodTruckRota::restore);
        FoodTruckRota rota = unsaved.get();
        rota.undo();
        rota.save();
        Check.same("restore() after save", rota.restore(), 2);
    }
}
