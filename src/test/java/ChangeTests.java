import java.util.NoSuchElementException;

/** Promises 1 to 9: a new object, and the changes but for the passing of minutes. */
final class ChangeTests {
    private static final Class<IndexOutOfBoundsException> INDEX = IndexOutOfBoundsException.class;
    private static final Class<IllegalArgumentException> ARGUMENT = IllegalArgumentException.class;
    private static final Class<IllegalStateException> STATE = IllegalStateException.class;

    private ChangeTests() {
    }

    static void run() {
        Check.test("promise 1: a new object", ChangeTests::newObject);
        Check.test("promise 2: addTruck", ChangeTests::addTruck);
        Check.test("promise 3: addStock", ChangeTests::addStock);
        Check.test("promise 3: addStock, wrong inputs", ChangeTests::addStockWrong);
        Check.test("promise 4: setPrice", ChangeTests::setPrice);
        Check.test("promise 5: grantPermit", ChangeTests::grantPermit);
        Check.test("promise 6: revokePermit", ChangeTests::revokePermit);
        Check.test("promise 6: revokePermit closes an open truck", ChangeTests::revokeCloses);
        Check.test("promise 7: assign", ChangeTests::assign);
        Check.test("promise 7: assign, wrong inputs in the order of the list", ChangeTests::assignWrong);
        Check.test("promise 8: release", ChangeTests::release);
        Check.test("promise 8: release closes an open truck", ChangeTests::releaseCloses);
        Check.test("promise 9: setWeather", ChangeTests::setWeather);
        Check.test("a method that throws changes nothing", ChangeTests::throwsChangeNothing);
    }

    private static void newObject() {
        FoodTruckRota rota = new FoodTruckRota();
        Check.same("all", Rotas.all(rota), "0/0/1 0=0+0+0 5x0 5x0 5x0 5x0 ----- ----- ----- ----- ----- ----- -----");
        Check.same("truckCount()", rota.truckCount(), 0);
        Check.same("assignments()", rota.assignments(), 0);
        Check.same("assignmentsByTrucks()", rota.assignmentsByTrucks(), 0);
        Check.same("isConsistent()", rota.isConsistent(), true);
        Check.fails("undo()", NoSuchElementException.class, rota::undo);
        Check.fails("restore()", STATE, rota::restore);
    }

    private static void addTruck() {
        FoodTruckRota rota = new FoodTruckRota();
        for (int truck = 0; truck < 6; truck++) {
            Check.same("addTruck()", rota.addTruck(), truck);
            Check.same("truckCount()", rota.truckCount(), truck + 1);
            Check.same("renderTruck", Rotas.truckText(rota, truck), "t" + truck + ":0,0,0,0$0");
            for (int weekday = 0; weekday < 7; weekday++) {
                Check.same("hasPermit", rota.hasPermit(truck, weekday), false);
            }
        }
        Check.fails("addTruck()", STATE, rota::addTruck);
        Check.same("truckCount()", rota.truckCount(), 6);
    }

    private static void addStock() {
        FoodTruckRota rota = Rotas.trucks(2);
        Check.same("addStock(1, 0, 1)", rota.addStock(1, 0, 1), 1);
        Check.same("addStock(1, 3, 50)", rota.addStock(1, 3, 50), 50);
        Check.same("addStock(1, 3, 48)", rota.addStock(1, 3, 48), 98);
        Check.fails("addStock(1, 3, 2)", STATE, () -> rota.addStock(1, 3, 2));
        Check.same("addStock(1, 3, 1)", rota.addStock(1, 3, 1), 99);
        Check.fails("addStock(1, 3, 1)", STATE, () -> rota.addStock(1, 3, 1));
        Check.same("truck 0", Rotas.truckText(rota, 0), "t0:0,0,0,0$0");
        Check.same("truck 1", Rotas.truckText(rota, 1), "t1:1,0,0,99$0");
    }

    private static void addStockWrong() {
        FoodTruckRota rota = Rotas.trucks(1);
        int[] noTruck = {-1, 1, 6, Integer.MIN_VALUE, Integer.MAX_VALUE};
        for (int truck : noTruck) {
            Check.fails("addStock(" + truck + ", 0, 0)", INDEX, () -> rota.addStock(truck, 0, 0));
        }
        int[] noDish = {-1, 4, Integer.MIN_VALUE, Integer.MAX_VALUE};
        for (int dish : noDish) {
            Check.fails("addStock(0, " + dish + ", 51)", INDEX, () -> rota.addStock(0, dish, 51));
        }
        rota.addStock(0, 0, 50);
        int[] noPortions = {0, -1, 51, Integer.MIN_VALUE, Integer.MAX_VALUE};
        for (int portions : noPortions) {
            Check.fails("addStock(0, 0, " + portions + ")", ARGUMENT, () -> rota.addStock(0, 0, portions));
        }
        Check.fails("addStock(0, 0, 50)", STATE, () -> rota.addStock(0, 0, 50));
        Check.same("stock(0, 0)", rota.stock(0, 0), 50);
    }

    private static void setPrice() {
        FoodTruckRota rota = new FoodTruckRota();
        Check.same("setPrice(0, 1)", rota.setPrice(0, 1), 5);
        Check.same("setPrice(0, 20)", rota.setPrice(0, 20), 1);
        Check.same("setPrice(0, 20)", rota.setPrice(0, 20), 20);
        Check.same("setPrice(3, 7)", rota.setPrice(3, 7), 5);
        Check.same("price(0)", rota.price(0), 20);
        Check.same("price(1)", rota.price(1), 5);
        Check.same("price(3)", rota.price(3), 7);
        Check.fails("setPrice(-1, 0)", INDEX, () -> rota.setPrice(-1, 0));
        Check.fails("setPrice(4, 21)", INDEX, () -> rota.setPrice(4, 21));
        Check.fails("setPrice(0, 0)", ARGUMENT, () -> rota.setPrice(0, 0));
        Check.fails("setPrice(0, 21)", ARGUMENT, () -> rota.setPrice(0, 21));
        Check.fails("setPrice(0, -5)", ARGUMENT, () -> rota.setPrice(0, -5));
        Check.same("price(0)", rota.price(0), 20);
    }

    private static void grantPermit() {
        FoodTruckRota rota = Rotas.trucks(2);
        for (int weekday = 6; weekday >= 0; weekday--) {
            Check.same("grantPermit(1, " + weekday + ")", rota.grantPermit(1, weekday), 7 - weekday);
            Check.same("hasPermit", rota.hasPermit(1, weekday), true);
        }
        Check.same("hasPermit(0, 0)", rota.hasPermit(0, 0), false);
        Check.same("grantPermit(0, 3)", rota.grantPermit(0, 3), 1);
        Check.fails("grantPermit(0, 3)", STATE, () -> rota.grantPermit(0, 3));
        Check.fails("grantPermit(2, 7)", INDEX, () -> rota.grantPermit(2, 7));
        Check.fails("grantPermit(-1, 0)", INDEX, () -> rota.grantPermit(-1, 0));
        Check.fails("grantPermit(0, 7)", ARGUMENT, () -> rota.grantPermit(0, 7));
        Check.fails("grantPermit(0, -1)", ARGUMENT, () -> rota.grantPermit(0, -1));
        Check.fails("grantPermit(0, 35)", ARGUMENT, () -> rota.grantPermit(0, 35));
    }

    private static void revokePermit() {
        FoodTruckRota rota = Rotas.trucks(2);
        rota.grantPermit(0, 2);
        rota.grantPermit(0, 3);
        rota.grantPermit(1, 3);
        rota.assign(0, 4, 3);
        rota.assign(1, 1, 3);
        Check.same("revokePermit(0, 2)", rota.revokePermit(0, 2), false);
        Check.same("hasPermit(0, 2)", rota.hasPermit(0, 2), false);
        Check.same("hasPermit(0, 3)", rota.hasPermit(0, 3), true);
        Check.same("day 3", Rotas.dayText(rota, 3), "-1--0");
        Check.same("revokePermit(0, 3)", rota.revokePermit(0, 3), true);
        Check.same("day 3", Rotas.dayText(rota, 3), "-1---");
        Check.fails("revokePermit(0, 3)", STATE, () -> rota.revokePermit(0, 3));
        Check.fails("revokePermit(2, 7)", INDEX, () -> rota.revokePermit(2, 7));
        Check.fails("revokePermit(-1, 3)", INDEX, () -> rota.revokePermit(-1, 3));
        Check.fails("revokePermit(0, 7)", ARGUMENT, () -> rota.revokePermit(0, 7));
        Check.fails("revokePermit(0, -1)", ARGUMENT, () -> rota.revokePermit(0, -1));
        Check.same("grantPermit(0, 3)", rota.grantPermit(0, 3), 1);
        Check.same("day 3", Rotas.dayText(rota, 3), "-1---");
    }

    private static void revokeCloses() {
        FoodTruckRota rota = Rotas.open(1);
        rota.grantPermit(0, 1);
        rota.assign(0, 2, 1);
        rota.addStock(0, 1, 9);
        rota.setWeather(3);
        rota.advance(2);
        Check.same("queue", Rotas.queue(rota, 0), "12301");
        Check.same("minutesLeft(0)", rota.minutesLeft(0), 1);
        Check.same("revokePermit(0, 1)", rota.revokePermit(0, 1), true);
        Check.same("queue", Rotas.queue(rota, 0), "12301");
        Check.same("disappointedTotal()", rota.disappointedTotal(), 1);
        Check.same("revokePermit(0, 0)", rota.revokePermit(0, 0), true);
        Check.same("isOpen(0)", rota.isOpen(0), false);
        Check.same("queueLength(0)", rota.queueLength(0), 0);
        Check.same("minutesLeft(0)", rota.minutesLeft(0), 0);
        Check.same("stock(0, 1)", rota.stock(0, 1), 9);
        Check.same("disappointedTotal()", rota.disappointedTotal(), 6);
        Check.same("isConsistent()", rota.isConsistent(), true);
        rota.grantPermit(0, 0);
        rota.assign(0, 3, 0);
        Check.same("queueLength(0)", rota.queueLength(0), 0);
        Check.same("minutesLeft(0)", rota.minutesLeft(0), 0);
    }

    private static void assign() {
        FoodTruckRota rota = Rotas.trucks(3);
        rota.grantPermit(0, 0);
        rota.grantPermit(0, 6);
        rota.grantPermit(2, 6);
        Check.same("assign(0, 4, 0)", rota.assign(0, 4, 0), 1);
        Check.same("assign(0, 0, 6)", rota.assign(0, 0, 6), 2);
        Check.same("assign(2, 4, 6)", rota.assign(2, 4, 6), 1);
        Check.same("day 0", Rotas.dayText(rota, 0), "----0");
        Check.same("day 6", Rotas.dayText(rota, 6), "0---2");
        Check.same("isOpen(0)", rota.isOpen(0), true);
        Check.same("isOpen(2)", rota.isOpen(2), false);
    }

    private static void assignWrong() {
        FoodTruckRota rota = Rotas.trucks(2);
        rota.grantPermit(0, 0);
        rota.grantPermit(1, 0);
        rota.assign(0, 2, 0);
        Check.fails("assign(2, 0, 7)", INDEX, () -> rota.assign(2, 0, 7));
        Check.fails("assign(-1, 0, 0)", INDEX, () -> rota.assign(-1, 0, 0));
        Check.fails("assign(0, 5, 7)", INDEX, () -> rota.assign(0, 5, 7));
        Check.fails("assign(0, -1, 0)", INDEX, () -> rota.assign(0, -1, 0));
        Check.fails("assign(0, 0, 7)", ARGUMENT, () -> rota.assign(0, 0, 7));
        Check.fails("assign(0, 0, -1)", ARGUMENT, () -> rota.assign(0, 0, -1));
        Check.fails("assign(0, 0, 1)", UnsupportedOperationException.class, () -> rota.assign(0, 0, 1));
        Check.fails("assign(1, 2, 0)", STATE, () -> rota.assign(1, 2, 0));
        Check.fails("assign(0, 3, 0)", STATE, () -> rota.assign(0, 3, 0));
        Check.fails("assign(0, 2, 0)", STATE, () -> rota.assign(0, 2, 0));
        rota.addTruck();
        Check.fails("assign(2, 2, 0)", UnsupportedOperationException.class, () -> rota.assign(2, 2, 0));
        Check.same("day 0", Rotas.dayText(rota, 0), "--0--");
    }

    private static void release() {
        FoodTruckRota rota = Rotas.open(3);
        rota.grantPermit(1, 6);
        rota.assign(1, 4, 6);
        Check.same("release(4, 6)", rota.release(4, 6), 1);
        Check.same("release(2, 0)", rota.release(2, 0), 2);
        Check.same("release(0, 0)", rota.release(0, 0), 0);
        Check.same("day 0", Rotas.dayText(rota, 0), "-1---");
        Check.same("day 6", Rotas.dayText(rota, 6), "-----");
        Check.same("hasPermit(2, 0)", rota.hasPermit(2, 0), true);
        Check.fails("release(2, 0)", NoSuchElementException.class, () -> rota.release(2, 0));
        Check.fails("release(5, 7)", INDEX, () -> rota.release(5, 7));
        Check.fails("release(-1, 0)", INDEX, () -> rota.release(-1, 0));
        Check.fails("release(1, 7)", ARGUMENT, () -> rota.release(1, 7));
        Check.fails("release(1, -1)", ARGUMENT, () -> rota.release(1, -1));
        Check.same("assign(2, 0, 0)", rota.assign(2, 0, 0), 1);
    }

    private static void releaseCloses() {
        FoodTruckRota rota = Rotas.stocked(2, 5);
        rota.grantPermit(0, 3);
        rota.assign(0, 2, 3);
        rota.setWeather(3);
        rota.advance(3);
        Check.same("queue 0", Rotas.queue(rota, 0), "2310");
        Check.same("queue 1", Rotas.queue(rota, 1), "23");
        Check.same("minutesLeft(0)", rota.minutesLeft(0), 1);
        Check.same("release(2, 3)", rota.release(2, 3), 0);
        Check.same("queue 0", Rotas.queue(rota, 0), "2310");
        Check.same("release(0, 0)", rota.release(0, 0), 0);
        Check.same("disappointedTotal()", rota.disappointedTotal(), 4);
        Check.same("queue 0", Rotas.queue(rota, 0), "");
        Check.same("minutesLeft(0)", rota.minutesLeft(0), 0);
        Check.same("queue 1", Rotas.queue(rota, 1), "23");
        Check.same("truck 0", Rotas.truckText(rota, 0), "t0:4,5,5,5$5");
        Check.same("assign(0, 4, 0)", rota.assign(0, 4, 0), 1);
        rota.advance(1);
        Check.same("queue 0", Rotas.queue(rota, 0), "12");
        Check.same("minutesLeft(0)", rota.minutesLeft(0), 1);
        Check.same("queue 1", Rotas.queue(rota, 1), "233");
        Check.same("isConsistent()", rota.isConsistent(), true);
    }

    private static void setWeather() {
        FoodTruckRota rota = new FoodTruckRota();
        Check.same("setWeather(3)", rota.setWeather(3), 1);
        Check.same("setWeather(0)", rota.setWeather(0), 3);
        Check.same("setWeather(0)", rota.setWeather(0), 0);
        Check.same("setWeather(2)", rota.setWeather(2), 0);
        int[] wrong = {-1, 4, Integer.MIN_VALUE, Integer.MAX_VALUE};
        for (int customers : wrong) {
            Check.fails("setWeather(" + customers + ")", ARGUMENT, () -> rota.setWeather(customers));
        }
        Check.same("weather()", rota.weather(), 2);
    }

    private static void throwsChangeNothing() {
        FoodTruckRota rota = Rotas.stocked(1, 50);
        rota.setWeather(2);
        rota.advance(3);
        String before = Rotas.all(rota);
        Check.fails("addStock", STATE, () -> rota.addStock(0, 2, 50));
        Check.fails("setPrice", ARGUMENT, () -> rota.setPrice(1, 99));
        Check.fails("grantPermit", STATE, () -> rota.grantPermit(0, 0));
        Check.fails("revokePermit", STATE, () -> rota.revokePermit(0, 1));
        Check.fails("assign", STATE, () -> rota.assign(0, 3, 0));
        Check.fails("release", NoSuchElementException.class, () -> rota.release(1, 0));
        Check.fails("setWeather", ARGUMENT, () -> rota.setWeather(9));
        Check.fails("advance", ARGUMENT, () -> rota.advance(61));
        Check.same("all", Rotas.all(rota), before);
        Check.same("undo()", rota.undo(), 7);
        Check.same("minute()", rota.minute(), 0);
    }
}
