import java.util.List;
import java.util.NoSuchElementException;
import java.util.function.Consumer;

/** Promises 47 to 49: undo and the snapshot. */
final class UndoTests {
    private static final Class<NoSuchElementException> ELEMENT = NoSuchElementException.class;

    private UndoTests() {
    }

    static void run() {
        Check.test("promise 47: undo takes each kind of change back", UndoTests::eachChange);
        Check.test("promise 47: the latest 8 changes", UndoTests::latestEight);
        Check.test("promise 47: a change that leaves the state the same", UndoTests::sameState);
        Check.test("promise 47: changes after an undo", UndoTests::changesAfterUndo);
        Check.test("promise 47: what undo does not cover", UndoTests::notCovered);
        Check.test("promise 48: save", UndoTests::save);
        Check.test("promise 49: restore", UndoTests::restore);
        Check.test("promise 49: restore, nothing to undo afterwards", UndoTests::restoreForgets);
    }

    private static void eachChange() {
        List<Consumer<FoodTruckRota>> changes = List.of(
            FoodTruckRota::addTruck, rota -> rota.addStock(1, 0, 9), rota -> rota.setPrice(3, 9), rota -> rota.grantPermit(0, 4),
            rota -> rota.revokePermit(0, 0), rota -> rota.assign(0, 4, 6), rota -> rota.release(1, 0),
            rota -> rota.setWeather(3), rota -> rota.advance(60), rota -> Rotas.run(rota, "truck;wait 60"));
        for (int index = 0; index < changes.size(); index++) {
            FoodTruckRota rota = Rotas.stocked(2, 9);
            rota.grantPermit(0, 6);
            rota.setWeather(2);
            rota.advance(5);
            String before = Rotas.all(rota);
            changes.get(index).accept(rota);
            Check.same("changed " + index, Rotas.all(rota).equals(before), false);
            Check.same("undo() " + index, rota.undo(), 7);
            changes.get(index).accept(rota);
            rota.undo();
            rota.advance(60);
            rota.undo();
            Check.same("all " + index, Rotas.all(rota), before);
        }
    }

    private static void latestEight() {
        FoodTruckRota rota = new FoodTruckRota();
        for (int coins = 1; coins <= 20; coins++) {
            rota.setPrice(0, coins);
        }
        for (int left = 7; left >= 0; left--) {
            Check.same("undo()", rota.undo(), left);
            Check.same("price(0)", rota.price(0), 12 + left);
        }
        Check.fails("undo()", ELEMENT, rota::undo);
        Check.same("price(0)", rota.price(0), 12);
        rota.setPrice(0, 3);
        Check.same("undo()", rota.undo(), 0);
        Check.same("price(0)", rota.price(0), 12);
    }

    private static void sameState() {
        FoodTruckRota rota = new FoodTruckRota();
        rota.setPrice(0, 5);
        rota.setWeather(1);
        Check.same("undo()", rota.undo(), 1);
        Check.same("undo()", rota.undo(), 0);
        Check.fails("undo()", ELEMENT, rota::undo);
    }

    private static void changesAfterUndo() {
        FoodTruckRota rota = new FoodTruckRota();
        for (int coins = 1; coins <= 10; coins++) {
            rota.setPrice(0, coins);
        }
        rota.undo();
        rota.undo();
        Check.same("undo()", rota.undo(), 5);
        rota.setPrice(0, 18);
        rota.setPrice(0, 19);
        int[] prices = {18, 7, 6, 5, 4, 3, 2};
        for (int index = 0; index < 7; index++) {
            Check.same("undo()", rota.undo(), 6 - index);
            Check.same("price(0)", rota.price(0), prices[index]);
        }
        Check.fails("undo()", ELEMENT, rota::undo);
    }

    private static void notCovered() {
        FoodTruckRota rota = Rotas.trucks(1);
        rota.renderTruck(0);
        rota.type('w');
        rota.save();
        rota.undo();
        Check.same("output", Rotas.text(rota, 12), "t0:0,0,0,0$0");
        Check.same("type", rota.type('a'), 2);
        Check.same("restore()", rota.restore(), 1);
        Check.same("output", Rotas.text(rota, 12), "t0:0,0,0,0$0");
        Check.same("type", rota.type('i'), 3);
        Check.same("run", Rotas.run(rota, "t"), 1);
    }

    private static void save() {
        FoodTruckRota rota = Rotas.trucks(3);
        Check.same("save()", rota.save(), 3);
        Check.same("undo()", rota.undo(), 2);
        rota.addTruck();
        rota.addTruck();
        Check.same("save()", rota.save(), 4);
        rota.addTruck();
        Check.same("restore()", rota.restore(), 4);
        Check.same("truckCount()", rota.truckCount(), 4);
    }

    private static void restore() {
        FoodTruckRota rota = Rotas.stocked(2, 9);
        Check.fails("restore()", IllegalStateException.class, rota::restore);
        rota.setWeather(3);
        rota.advance(59);
        String before = Rotas.all(rota);
        rota.save();
        for (int again = 0; again < 3; again++) {
            rota.advance(60);
            rota.addTruck();
            rota.setPrice(0, 1);
            rota.revokePermit(0, 0);
            rota.addStock(1, 0, 1);
            rota.grantPermit(1, 6);
            rota.assign(1, 0, 6);
            Check.same("restore()", rota.restore(), 2);
            Check.same("all", Rotas.all(rota), before);
        }
        Check.same("isConsistent()", rota.isConsistent(), true);
    }

    private static void restoreForgets() {
        FoodTruckRota rota = Rotas.trucks(2);
        rota.save();
        rota.addTruck();
        rota.restore();
        Check.fails("undo()", ELEMENT, rota::undo);
        rota.addTruck();
        rota.addTruck();
        Check.same("undo()", rota.undo(), 1);
        Check.same("undo()", rota.undo(), 0);
        Check.same("truckCount()", rota.truckCount(), 2);
        Check.fails("undo()", ELEMENT, rota::undo);
    }
}
