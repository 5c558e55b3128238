import java.util.List;
import java.util.NoSuchElementException;
import java.util.function.Consumer;
import java.util.function.Supplier;

/** The sentences under "Changes". */
final class ChangesTermsTests {
    private static final Class<IndexOutOfBoundsException> INDEX = IndexOutOfBoundsException.class;
    private static final Class<IllegalArgumentException> ARGUMENT = IllegalArgumentException.class;
    private static final Class<IllegalStateException> STATE = IllegalStateException.class;
    private static final Class<NoSuchElementException> ELEMENT = NoSuchElementException.class;
    private static final Class<UnsupportedOperationException> UNSUPPORTED = UnsupportedOperationException.class;
    private static final String HEAD = "Changes";
    private static final String FIRST = "If several exceptions apply, the one that is listed first is thrown.";

    private ChangesTermsTests() {
    }

    static void run() {
        runUndo();
        runExceptions();
        String closing = "When a truck stops being open, because its assignment on the present day of the week ends, the"
                + " customers of its queue leave disappointed and its preparation is dropped.";
        Sentences.test(HEAD, closing, ChangesTermsTests::closesByRelease);
        Sentences.test(HEAD, closing, ChangesTermsTests::closesByRevokePermit);
        Sentences.test(HEAD, closing, ChangesTermsTests::closesAfterAWeek);
        Sentences.test(HEAD, "because its assignment on the present day of the week ends", ChangesTermsTests::otherDays);
        Sentences.test(HEAD, "Predictions do not change the state and assume that only minutes pass.",
                ChangesTermsTests::predictions);
    }

    private static void runUndo() {
        Sentences.test(HEAD, "A change is a call of addTruck, addStock, setPrice, grantPermit, revokePermit, assign, release,"
                + " setWeather, advance or runScript that returns normally", ChangesTermsTests::eachChangeCounts);
        Sentences.test(HEAD, "even if the state is the same afterwards", ChangesTermsTests::sameStateCounts);
        Sentences.test(HEAD, "A change is a call of", ChangesTermsTests::nothingElseCounts);
        Sentences.test(HEAD, "Predictions do not change the state", ChangesTermsTests::questionsChangeNothing);
        Sentences.test(HEAD, "The latest 8 changes can be undone", ChangesTermsTests::latestEight);
        Sentences.test(HEAD, "the latest one first", ChangesTermsTests::latestFirst);
        Sentences.test(HEAD, "Undo and the snapshot cover everything", ChangesTermsTests::coverEverything);
        Sentences.test(HEAD, "except the script buffer", ChangesTermsTests::notTheBuffer);
        Sentences.test(HEAD, "except the script buffer, the error position", ChangesTermsTests::notTheErrorPosition);
        Sentences.test(HEAD, "the index of the failed command", ChangesTermsTests::notTheFailedCommand);
        Sentences.test(HEAD, "the output text", ChangesTermsTests::notTheOutput);
        Sentences.test(HEAD, "and the snapshot itself", ChangesTermsTests::notTheSnapshot);
    }

    private static void runExceptions() {
        Sentences.test(HEAD, "A method that throws an exception changes nothing unless its description says otherwise.",
                ChangesTermsTests::refusedChangesNothing);
        Sentences.test(HEAD, FIRST, ChangesTermsTests::firstOfAddStock);
        Sentences.test(HEAD, FIRST, ChangesTermsTests::firstOfSetPrice);
        Sentences.test(HEAD, FIRST, ChangesTermsTests::firstOfPermits);
        Sentences.test(HEAD, FIRST, ChangesTermsTests::firstOfAssign);
        Sentences.test(HEAD, FIRST, ChangesTermsTests::firstOfRelease);
        Sentences.test(HEAD, FIRST, ChangesTermsTests::firstOfQuestions);
        Sentences.test(HEAD, FIRST, ChangesTermsTests::firstOfScripts);
    }

    /** The ten kinds of change, on a fresh busy square; the script goes on after the "truc" in the buffer. */
    private static List<Consumer<FoodTruckRota>> changes() {
        return List.of(FoodTruckRota::addTruck, rota -> rota.addStock(2, 3, 50), rota -> rota.setPrice(0, 20),
                rota -> rota.grantPermit(2, 6), rota -> rota.revokePermit(1, 6), rota -> rota.revokePermit(0, 0),
                rota -> rota.assign(1, 0, 5), rota -> rota.release(0, 0), rota -> rota.setWeather(0),
                rota -> rota.advance(60), rota -> Rotas.run(rota, "k;wait;free 3 0"));
    }

    /** The busy square, where truck 1 may be assigned on day 5. */
    private static FoodTruckRota busyWithPermit() {
        FoodTruckRota rota = Rotas.busy();
        rota.grantPermit(1, 5);
        return rota;
    }

    private static void eachChangeCounts() {
        List<Consumer<FoodTruckRota>> changes = changes();
        for (int index = 0; index < changes.size(); index++) {
            FoodTruckRota rota = busyWithPermit();
            String first = Rotas.all(rota);
            changes.get(index).accept(rota);
            Check.same("change " + index + " changes something", Rotas.all(rota).equals(first), false);
            Check.same("undo() of change " + index, rota.undo(), 7);
            Check.same("all after undo of change " + index, Rotas.all(rota), first);
        }
        FoodTruckRota few = Rotas.trucks(1);
        Check.same("undo() of one change", few.undo(), 0);
        Check.same("truckCount()", few.truckCount(), 0);
        FoodTruckRota script = new FoodTruckRota();
        Rotas.run(script, "truck;truck;truck");
        Check.same("undo() of a script of three commands", script.undo(), 0);
        Check.same("truckCount()", script.truckCount(), 0);
    }

    private static void sameStateCounts() {
        FoodTruckRota rota = new FoodTruckRota();
        rota.setPrice(0, 5);
        rota.setWeather(1);
        Rotas.run(rota, "price 3 5");
        Rotas.run(rota, "weather 2;weather 1");
        for (int left = 3; left >= 0; left--) {
            Check.same("undo()", rota.undo(), left);
        }
        Check.fails("undo()", ELEMENT, rota::undo);
    }

    private static void nothingElseCounts() {
        FoodTruckRota rota = Rotas.open(1);
        rota.advance(3);
        rota.save();
        rota.servedWithin(60);
        rota.renderDay(0);
        rota.renderTruck(0);
        rota.outputAt(0);
        rota.isConsistent();
        rota.truckByCoins(0);
        rota.firstFreePitch(0);
        Rotas.typeAll(rota, "x");
        Check.fails("runScript()", ARGUMENT, rota::runScript);
        Check.fails("a failing script", STATE, () -> Rotas.run(rota, "truck;wait 0"));
        Check.fails("addStock", ARGUMENT, () -> rota.addStock(0, 0, 51));
        Check.fails("assign", STATE, () -> rota.assign(0, 0, 0));
        for (int left = 3; left >= 0; left--) {
            Check.same("undo()", rota.undo(), left);
        }
        Check.fails("undo()", ELEMENT, rota::undo);
        rota.addTruck();
        Check.same("undo() itself is no change", rota.undo(), 0);
        rota.restore();
        Check.fails("restore is no change", ELEMENT, rota::undo);
    }

    private static void questionsChangeNothing() {
        Consumer<FoodTruckRota> questions = rota -> {
            Rotas.all(rota);
            rota.servedWithin(60);
            rota.truckByCoins(2);
            rota.queueTime(0);
            rota.firstFreePitch(0);
            rota.outputAt(0);
            rota.meanCoins();
            rota.servedShare();
            rota.isConsistent();
            rota.errorPosition();
            rota.failedCommand();
        };
        Check.same("traces", Refusals.traces(Rotas::busy, questions), Refusals.traces(Rotas::busy, untouched -> { }));
    }

    private static FoodTruckRota prices(int changes) {
        FoodTruckRota rota = new FoodTruckRota();
        for (int coins = 1; coins <= changes; coins++) {
            rota.setPrice(0, coins);
        }
        return rota;
    }

    private static void latestEight() {
        for (int changes = 1; changes <= 20; changes++) {
            FoodTruckRota rota = prices(changes);
            int last = Math.min(8, changes);
            for (int undone = 1; undone <= last; undone++) {
                Check.same("undo() " + undone + " of " + changes, rota.undo(), last - undone);
            }
            Check.fails("one more undo() of " + changes, ELEMENT, rota::undo);
            Check.same("price(0) after " + changes, rota.price(0), changes > 8 ? changes - 8 : 5);
        }
    }

    private static void latestFirst() {
        FoodTruckRota rota = prices(9);
        Check.same("undo()", rota.undo(), 7);
        Check.same("price(0)", rota.price(0), 8);
        rota.setPrice(0, 15);
        Check.same("undo()", rota.undo(), 7);
        Check.same("price(0)", rota.price(0), 8);
        for (int price = 7; price >= 1; price--) {
            Check.same("undo()", rota.undo(), price - 1);
            Check.same("price(0)", rota.price(0), price);
        }
        FoodTruckRota again = prices(20);
        for (int undone = 0; undone < 5; undone++) {
            again.undo();
        }
        for (int coins = 11; coins <= 17; coins++) {
            again.setPrice(0, coins);
        }
        Check.same("undo(), 3 old and 7 new changes are 8", again.undo(), 7);
        Check.same("price(0)", again.price(0), 16);
        for (int undone = 0; undone < 7; undone++) {
            again.undo();
        }
        Check.same("price(0), of the old changes one can be undone", again.price(0), 14);
        Check.fails("undo()", ELEMENT, again::undo);
    }

    private static void coverEverything() {
        List<Consumer<FoodTruckRota>> changes = changes();
        for (int index = 0; index < changes.size(); index++) {
            FoodTruckRota undone = busyWithPermit();
            String before = Rotas.all(undone);
            changes.get(index).accept(undone);
            undone.undo();
            undone.advance(60);
            FoodTruckRota waiting = busyWithPermit();
            waiting.advance(60);
            Check.same("all an hour after undo of change " + index, Rotas.all(undone), Rotas.all(waiting));
            FoodTruckRota restored = busyWithPermit();
            restored.save();
            changes.get(index).accept(restored);
            restored.advance(60);
            restored.restore();
            Check.same("all after restore of change " + index, Rotas.all(restored), before);
        }
    }

    private static void notTheBuffer() {
        FoodTruckRota rota = Rotas.busy();
        rota.undo();
        Check.same("type after undo", rota.type('k'), 5);
        rota.save();
        rota.type(';');
        Check.same("restore()", rota.restore(), 3);
        Check.same("type after restore", rota.type('w'), 7);
        Rotas.typeAll(rota, "ait");
        Check.same("runScript()", rota.runScript(), 2);
        rota.undo();
        Check.same("the buffer does not come back", rota.type('t'), 1);
        rota.restore();
        Check.same("the buffer does not come back", rota.type('t'), 2);
    }

    private static void notTheErrorPosition() {
        FoodTruckRota rota = Rotas.trucks(1);
        rota.save();
        Check.fails("a wrong form", ARGUMENT, () -> Rotas.run(rota, "wait x"));
        rota.undo();
        Check.same("errorPosition() after undo", rota.errorPosition(), 5);
        rota.restore();
        Check.same("errorPosition() after restore", rota.errorPosition(), 5);
        rota.save();
        Check.fails("a wrong form", ARGUMENT, () -> Rotas.run(rota, "tx"));
        rota.restore();
        Check.same("errorPosition() after restore", rota.errorPosition(), 1);
    }

    private static void notTheFailedCommand() {
        FoodTruckRota rota = Rotas.trucks(1);
        rota.save();
        Check.fails("a failing script", STATE, () -> Rotas.run(rota, "wait;wait;wait 0"));
        rota.undo();
        Check.same("failedCommand() after undo", rota.failedCommand(), 2);
        rota.restore();
        Check.same("failedCommand() after restore", rota.failedCommand(), 2);
        rota.save();
        Check.fails("a failing script", STATE, () -> Rotas.run(rota, "wait;wait 0"));
        rota.restore();
        Check.same("failedCommand() after restore", rota.failedCommand(), 1);
    }

    private static void notTheOutput() {
        FoodTruckRota rota = Rotas.open(2);
        rota.save();
        rota.renderDay(0);
        rota.undo();
        Check.same("output after undo", Rotas.text(rota, 5), "01---");
        rota.restore();
        Check.same("output after restore", Rotas.text(rota, 5), "01---");
        rota.save();
        rota.renderTruck(1);
        rota.restore();
        Check.same("output after restore", Rotas.text(rota, 14), "t1:0,0,0,0$0@1");
    }

    private static void notTheSnapshot() {
        FoodTruckRota rota = Rotas.trucks(2);
        rota.save();
        rota.undo();
        rota.undo();
        Check.same("restore() after undo of what was before save", rota.restore(), 2);
        rota.addTruck();
        rota.save();
        rota.undo();
        Check.same("restore() after undo", rota.restore(), 3);
        rota.addTruck();
        Check.same("restore() again", rota.restore(), 3);
    }

    private static void refusedChangesNothing() {
        Supplier<FoodTruckRota> full = ChangesTermsTests::sixTrucks;
        Refusals.refused("addTruck()", STATE, full, FoodTruckRota::addTruck);
        Refusals.refused("addStock(0, 3, 1)", STATE, full, rota -> rota.addStock(0, 3, 1));
        Refusals.refused("setPrice(0, 21)", ARGUMENT, full, rota -> rota.setPrice(0, 21));
        Refusals.refused("grantPermit(0, 0)", STATE, full, rota -> rota.grantPermit(0, 0));
        Refusals.refused("revokePermit(0, 7)", ARGUMENT, full, rota -> rota.revokePermit(0, 7));
        Refusals.refused("assign(0, 1, 0)", STATE, full, rota -> rota.assign(0, 1, 0));
        Refusals.refused("assign(5, 1, 0)", UNSUPPORTED, full, rota -> rota.assign(5, 1, 0));
        Refusals.refused("release(1, 0)", ELEMENT, full, rota -> rota.release(1, 0));
        Refusals.refused("setWeather(4)", ARGUMENT, full, rota -> rota.setWeather(4));
        Refusals.refused("advance(61)", ARGUMENT, full, rota -> rota.advance(61));
        Refusals.refused("servedWithin(61)", ARGUMENT, full, rota -> rota.servedWithin(61));
        Refusals.refused("renderDay(7)", ARGUMENT, full, rota -> rota.renderDay(7));
        Refusals.refused("renderTruck(6)", INDEX, full, rota -> rota.renderTruck(6));
        Refusals.refused("outputAt(99)", INDEX, full, rota -> rota.outputAt(99));
        Refusals.refused("type(127)", ARGUMENT, full, rota -> rota.type((char) 127));
    }

    private static FoodTruckRota sixTrucks() {
        FoodTruckRota rota = Rotas.busy();
        Rotas.add(rota, 3);
        rota.addStock(0, 3, 49);
        return rota;
    }

    private static void firstOfAddStock() {
        FoodTruckRota rota = Rotas.trucks(1);
        rota.addStock(0, 0, 50);
        rota.addStock(0, 0, 49);
        Check.fails("no truck, no portions", INDEX, () -> rota.addStock(1, 0, 0));
        Check.fails("no truck, no dish, too many portions", INDEX, () -> rota.addStock(-1, -1, 51));
        Check.fails("no dish, no portions", INDEX, () -> rota.addStock(0, 4, 0));
        Check.fails("no dish, too many portions", INDEX, () -> rota.addStock(0, -1, 51));
        Check.fails("too many portions, and the stock is full", ARGUMENT, () -> rota.addStock(0, 0, 51));
        Check.fails("far too many portions, and the stock is full", ARGUMENT, () -> rota.addStock(0, 0, Integer.MAX_VALUE));
        Check.fails("the stock is full", STATE, () -> rota.addStock(0, 0, 50));
        Check.fails("no truck before the first one", INDEX, () -> new FoodTruckRota().addStock(0, 0, 0));
    }

    private static void firstOfSetPrice() {
        FoodTruckRota rota = new FoodTruckRota();
        Check.fails("no dish, too low", INDEX, () -> rota.setPrice(4, 0));
        Check.fails("no dish, too high", INDEX, () -> rota.setPrice(-1, 21));
        Check.fails("too high", ARGUMENT, () -> rota.setPrice(3, 21));
    }

    private static void firstOfPermits() {
        FoodTruckRota rota = Rotas.trucks(1);
        Check.fails("grantPermit, no truck, no day", INDEX, () -> rota.grantPermit(1, 7));
        Check.fails("grantPermit, no day", ARGUMENT, () -> rota.grantPermit(0, 7));
        Check.fails("revokePermit, no truck, no day, no permit", INDEX, () -> rota.revokePermit(1, 7));
        Check.fails("revokePermit, no truck, no permit", INDEX, () -> rota.revokePermit(-1, 0));
        Check.fails("revokePermit, no day, no permit", ARGUMENT, () -> rota.revokePermit(0, 7));
        Check.fails("revokePermit, no day, no permit", ARGUMENT, () -> rota.revokePermit(0, -1));
        Check.fails("revokePermit, no permit", STATE, () -> rota.revokePermit(0, 6));
        Check.fails("hasPermit, no truck, no day", INDEX, () -> rota.hasPermit(1, 7));
        Check.fails("hasPermit, no day", ARGUMENT, () -> rota.hasPermit(0, 7));
    }

    private static void firstOfAssign() {
        FoodTruckRota rota = Rotas.open(1);
        rota.addTruck();
        Check.fails("no truck, no pitch, no day", INDEX, () -> rota.assign(2, 5, 7));
        Check.fails("no truck, no day", INDEX, () -> rota.assign(2, 0, 7));
        Check.fails("no truck, the pitch is assigned", INDEX, () -> rota.assign(2, 0, 0));
        Check.fails("no pitch, no day", INDEX, () -> rota.assign(0, 5, -1));
        Check.fails("no pitch, no permit", INDEX, () -> rota.assign(1, -1, 0));
        Check.fails("no pitch, the truck is assigned", INDEX, () -> rota.assign(0, 5, 0));
        Check.fails("no day, no permit", ARGUMENT, () -> rota.assign(1, 0, 7));
        Check.fails("no permit, the pitch is assigned", UNSUPPORTED, () -> rota.assign(1, 0, 0));
        Check.fails("no permit on a day with free pitches", UNSUPPORTED, () -> rota.assign(0, 0, 1));
        rota.grantPermit(1, 0);
        Check.fails("the pitch is assigned", STATE, () -> rota.assign(1, 0, 0));
    }

    private static void firstOfRelease() {
        FoodTruckRota rota = Rotas.open(1);
        Check.fails("release, no pitch, no day", INDEX, () -> rota.release(5, 7));
        Check.fails("release, no pitch, not assigned", INDEX, () -> rota.release(-1, 1));
        Check.fails("release, no day, not assigned", ARGUMENT, () -> rota.release(1, 7));
        Check.fails("release, not assigned", ELEMENT, () -> rota.release(1, 6));
        Check.fails("truckAt, no pitch, no day", INDEX, () -> rota.truckAt(5, 7));
        Check.fails("truckAt, no pitch, not assigned", INDEX, () -> rota.truckAt(-1, 1));
        Check.fails("truckAt, no day, not assigned", ARGUMENT, () -> rota.truckAt(1, -1));
        Check.fails("truckAt, not assigned", ELEMENT, () -> rota.truckAt(1, 0));
    }

    private static void firstOfQuestions() {
        FoodTruckRota rota = Rotas.open(1);
        Check.fails("stock, no truck, no dish", INDEX, () -> rota.stock(1, 4));
        Check.fails("pitchOf, no truck, no day", INDEX, () -> rota.pitchOf(1, 7));
        Check.fails("pitchOf, no truck, not assigned", INDEX, () -> rota.pitchOf(1, 0));
        Check.fails("pitchOf, no day, not assigned", ARGUMENT, () -> rota.pitchOf(0, 7));
        Check.fails("pitchOf, not assigned", ELEMENT, () -> rota.pitchOf(0, 1));
        Check.fails("firstFreeDay, no truck, no such day", INDEX, () -> rota.firstFreeDay(1));
        Check.fails("firstFreeDay, no such day", ELEMENT, () -> rota.firstFreeDay(0));
        Check.fails("wantedDish, no truck, no position", INDEX, () -> rota.wantedDish(1, 0));
        Check.fails("wantedDish, no truck, position -1", INDEX, () -> rota.wantedDish(-1, -1));
        Check.fails("wantedDish, no position", ELEMENT, () -> rota.wantedDish(0, 0));
        FoodTruckRota full = Rotas.open(5);
        Check.fails("firstFreePitch, no day", ARGUMENT, () -> full.firstFreePitch(7));
        Check.fails("firstFreePitch, all are assigned", ELEMENT, () -> full.firstFreePitch(0));
    }

    private static void firstOfScripts() {
        FoodTruckRota rota = new FoodTruckRota();
        Rotas.typeAll(rota, "~".repeat(60));
        Check.fails("type, no such character, and the buffer is full", ARGUMENT, () -> rota.type((char) 31));
        Check.fails("type, no such character, and the buffer is full", ARGUMENT, () -> rota.type((char) 127));
        Check.fails("type, the buffer is full", STATE, () -> rota.type(' '));
        Check.fails("runScript()", ARGUMENT, rota::runScript);
        Check.fails("the first command would fail, the second has no form", ARGUMENT, () -> Rotas.run(rota, "free 0 0;x"));
        Check.same("errorPosition()", rota.errorPosition(), 9);
        Check.fails("failedCommand()", ELEMENT, rota::failedCommand);
    }

    private static void closesByRelease() {
        FoodTruckRota rota = Rotas.queueing(9);
        int gone = rota.disappointedTotal();
        Check.same("release(0, 0)", rota.release(0, 0), 0);
        Check.same("disappointedTotal()", rota.disappointedTotal(), gone + 9);
        Check.same("queueLength(0)", rota.queueLength(0), 0);
        Check.same("minutesLeft(0)", rota.minutesLeft(0), 0);
        Check.same("stock(0, 3)", rota.stock(0, 3), 9);
        Check.same("isConsistent()", rota.isConsistent(), true);
        rota.assign(0, 0, 0);
        rota.advance(1);
        Check.same("truck 0 starts with an empty queue", Rotas.truckText(rota, 0), "t0:0,0,0,9$0@0");
        FoodTruckRota empty = Rotas.open(2);
        empty.setWeather(0);
        empty.advance(1);
        empty.release(1, 0);
        Check.same("disappointedTotal() of an empty queue", empty.disappointedTotal(), 0);
    }

    private static void closesByRevokePermit() {
        FoodTruckRota rota = Rotas.queueing(9);
        int gone = rota.disappointedTotal();
        Check.same("revokePermit(0, 0)", rota.revokePermit(0, 0), true);
        Check.same("disappointedTotal()", rota.disappointedTotal(), gone + 9);
        Check.same("queueLength(0)", rota.queueLength(0), 0);
        Check.same("minutesLeft(0)", rota.minutesLeft(0), 0);
        Check.same("stock(0, 3)", rota.stock(0, 3), 9);
        Check.same("isConsistent()", rota.isConsistent(), true);
        FoodTruckRota other = Rotas.stocked(2, 9);
        other.setWeather(3);
        other.advance(6);
        String queue = Rotas.queue(other, 1);
        int left = other.minutesLeft(1);
        other.revokePermit(0, 0);
        Check.same("the other queue stays", Rotas.queue(other, 1), queue);
        Check.same("the other preparation goes on", other.minutesLeft(1), left);
    }

    /** Day 7 is day 0 of the week again. */
    private static void closesAfterAWeek() {
        for (String script : new String[] {"free 0 0", "revoke 0 0"}) {
            FoodTruckRota rota = Rotas.open(1);
            rota.addStock(0, 3, 9);
            for (int day = 0; day < 7; day++) {
                rota.advance(60);
            }
            rota.setWeather(3);
            rota.advance(1);
            int waiting = rota.queueLength(0);
            int gone = rota.disappointedTotal();
            Check.same("somebody waits", waiting > 0, true);
            Check.same("run", Rotas.run(rota, script), 1);
            Check.same("disappointedTotal() after " + script, rota.disappointedTotal(), gone + waiting);
            Check.same("queueLength(0)", rota.queueLength(0), 0);
            Check.same("isOpen(0)", rota.isOpen(0), false);
        }
    }

    private static void otherDays() {
        FoodTruckRota rota = Rotas.queueing(9);
        int gone = rota.disappointedTotal();
        Rotas.permitAndAssign(rota, 0, 0, 1);
        Rotas.permitAndAssign(rota, 0, 0, 6);
        rota.release(0, 6);
        rota.revokePermit(0, 1);
        rota.revokePermit(0, 6);
        Check.same("queueLength(0)", rota.queueLength(0), 9);
        Check.same("minutesLeft(0)", rota.minutesLeft(0), 1);
        Check.same("disappointedTotal()", rota.disappointedTotal(), gone);
        Check.same("isOpen(0)", rota.isOpen(0), true);
    }

    private static void predictions() {
        FoodTruckRota rota = Rotas.stocked(2, 50);
        rota.grantPermit(1, 1);
        rota.assign(1, 0, 1);
        rota.setWeather(2);
        rota.advance(31);
        String before = Rotas.all(rota);
        Check.same("servedWithin(0)", rota.servedWithin(0), 0);
        int[] predicted = new int[61];
        for (int minutes = 1; minutes <= 60; minutes++) {
            predicted[minutes] = rota.servedWithin(minutes);
        }
        Check.same("servedWithin(60) again", rota.servedWithin(60), predicted[60]);
        Check.same("all", Rotas.all(rota), before);
        int served = 0;
        for (int minutes = 1; minutes <= 60; minutes++) {
            served += rota.advance(1);
            Check.same("servedWithin(" + minutes + ")", predicted[minutes], served);
        }
        Check.same("the next day's truck serves too", predicted[60] > predicted[29], true);
        FoodTruckRota night = Rotas.queueing(3);
        night.advance(55);
        Check.same("servedWithin(60), only closed days", night.servedWithin(60), 0);
    }
}
