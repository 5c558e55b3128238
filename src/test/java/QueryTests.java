import java.util.NoSuchElementException;

/** Promises 11 to 42 but for 27, 29 and 30: what can be asked without a change. */
final class QueryTests {
    private static final Class<IndexOutOfBoundsException> INDEX = IndexOutOfBoundsException.class;
    private static final Class<IllegalArgumentException> ARGUMENT = IllegalArgumentException.class;
    private static final Class<NoSuchElementException> ELEMENT = NoSuchElementException.class;
    private static final int[] NO_TRUCK = {-1, 2, 6, Integer.MIN_VALUE, Integer.MAX_VALUE};
    private static final int[] NO_DISH = {-1, 4, Integer.MIN_VALUE, Integer.MAX_VALUE};
    private static final int[] NO_WEEKDAY = {-1, 7, Integer.MIN_VALUE, Integer.MAX_VALUE};

    private QueryTests() {
    }

    static void run() {
        Check.test("promise 11: truckCount", QueryTests::truckCount);
        Check.test("promise 12: stock", QueryTests::stock);
        Check.test("promise 13: coins", QueryTests::coins);
        Check.test("promise 14: price", QueryTests::price);
        Check.test("promise 15: hasPermit", QueryTests::hasPermit);
        Check.test("promise 16: truckAt", QueryTests::truckAt);
        Check.test("promise 17: pitchOf", QueryTests::pitchOf);
        Check.test("promise 18: isOpen", QueryTests::isOpen);
        Check.test("promises 19 and 20: assignments, both ways", QueryTests::assignments);
        Check.test("promise 21: firstFreeDay", QueryTests::firstFreeDay);
        Check.test("promise 22: firstFreePitch", QueryTests::firstFreePitch);
        Check.test("promises 23 and 24: queueLength and wantedDish", QueryTests::queue);
        Check.test("promises 25 and 26: minutesLeft and queueTime", QueryTests::times);
        Check.test("promise 28: truckByCoins", QueryTests::truckByCoins);
        Check.test("promise 31: weather", QueryTests::weather);
        Check.test("promises 32 to 35: the totals", QueryTests::totals);
        Check.test("promise 36: soldPortions", QueryTests::soldPortions);
        Check.test("promise 37: meanCoins", QueryTests::meanCoins);
        Check.test("promise 38: servedShare", QueryTests::servedShare);
        Check.test("promise 39: isConsistent", QueryTests::isConsistent);
        Check.test("promise 40: renderDay", QueryTests::renderDay);
        Check.test("promise 41: renderTruck", QueryTests::renderTruck);
        Check.test("promise 42: outputAt", QueryTests::outputAt);
    }

    private static void truckCount() {
        for (int number = 0; number <= 6; number++) {
            Check.same("truckCount()", Rotas.trucks(number).truckCount(), number);
        }
    }

    private static void stock() {
        FoodTruckRota rota = Rotas.trucks(2);
        rota.addStock(1, 2, 17);
        Check.same("stock(1, 2)", rota.stock(1, 2), 17);
        Check.same("stock(1, 3)", rota.stock(1, 3), 0);
        Check.same("stock(0, 2)", rota.stock(0, 2), 0);
        for (int truck : NO_TRUCK) {
            Check.fails("stock(" + truck + ", 0)", INDEX, () -> rota.stock(truck, 0));
        }
        for (int dish : NO_DISH) {
            Check.fails("stock(0, " + dish + ")", INDEX, () -> rota.stock(0, dish));
        }
    }

    private static void coins() {
        FoodTruckRota rota = Rotas.trucks(2);
        rota.grantPermit(1, 0);
        rota.assign(1, 0, 0);
        rota.addStock(1, 0, 2);
        rota.setPrice(0, 7);
        rota.advance(6);
        Check.same("coins(0)", rota.coins(0), 0);
        Check.same("coins(1)", rota.coins(1), 14);
        for (int truck : NO_TRUCK) {
            Check.fails("coins(" + truck + ")", INDEX, () -> rota.coins(truck));
        }
    }

    private static void price() {
        FoodTruckRota rota = new FoodTruckRota();
        for (int dish = 0; dish < 4; dish++) {
            Check.same("price(" + dish + ")", rota.price(dish), 5);
            rota.setPrice(dish, dish + 10);
        }
        for (int dish = 0; dish < 4; dish++) {
            Check.same("price(" + dish + ")", rota.price(dish), dish + 10);
        }
        for (int dish : NO_DISH) {
            Check.fails("price(" + dish + ")", INDEX, () -> rota.price(dish));
        }
    }

    private static void hasPermit() {
        FoodTruckRota rota = Rotas.trucks(2);
        rota.grantPermit(0, 6);
        Check.same("hasPermit(0, 6)", rota.hasPermit(0, 6), true);
        Check.same("hasPermit(0, 0)", rota.hasPermit(0, 0), false);
        Check.same("hasPermit(1, 6)", rota.hasPermit(1, 6), false);
        for (int truck : NO_TRUCK) {
            Check.fails("hasPermit(" + truck + ", 7)", INDEX, () -> rota.hasPermit(truck, 7));
        }
        for (int weekday : NO_WEEKDAY) {
            Check.fails("hasPermit(0, " + weekday + ")", ARGUMENT, () -> rota.hasPermit(0, weekday));
        }
    }

    private static void truckAt() {
        FoodTruckRota rota = Rotas.open(2);
        Check.same("truckAt(0, 0)", rota.truckAt(0, 0), 0);
        Check.same("truckAt(1, 0)", rota.truckAt(1, 0), 1);
        Check.fails("truckAt(2, 0)", ELEMENT, () -> rota.truckAt(2, 0));
        Check.fails("truckAt(0, 1)", ELEMENT, () -> rota.truckAt(0, 1));
        Check.fails("truckAt(-1, 7)", INDEX, () -> rota.truckAt(-1, 7));
        Check.fails("truckAt(5, 0)", INDEX, () -> rota.truckAt(5, 0));
        for (int weekday : NO_WEEKDAY) {
            Check.fails("truckAt(2, " + weekday + ")", ARGUMENT, () -> rota.truckAt(2, weekday));
        }
    }

    private static void pitchOf() {
        FoodTruckRota rota = Rotas.trucks(2);
        rota.grantPermit(1, 5);
        rota.assign(1, 4, 5);
        Check.same("pitchOf(1, 5)", rota.pitchOf(1, 5), 4);
        Check.fails("pitchOf(1, 4)", ELEMENT, () -> rota.pitchOf(1, 4));
        Check.fails("pitchOf(0, 5)", ELEMENT, () -> rota.pitchOf(0, 5));
        for (int truck : NO_TRUCK) {
            Check.fails("pitchOf(" + truck + ", 7)", INDEX, () -> rota.pitchOf(truck, 7));
        }
        for (int weekday : NO_WEEKDAY) {
            Check.fails("pitchOf(0, " + weekday + ")", ARGUMENT, () -> rota.pitchOf(0, weekday));
        }
    }

    private static void isOpen() {
        FoodTruckRota rota = Rotas.trucks(2);
        rota.grantPermit(0, 0);
        rota.grantPermit(0, 1);
        rota.grantPermit(1, 1);
        rota.assign(0, 0, 1);
        Check.same("isOpen(0)", rota.isOpen(0), false);
        rota.advance(60);
        Check.same("isOpen(0)", rota.isOpen(0), true);
        Check.same("isOpen(1)", rota.isOpen(1), false);
        rota.assign(1, 1, 1);
        Check.same("isOpen(1)", rota.isOpen(1), true);
        for (int truck : NO_TRUCK) {
            Check.fails("isOpen(" + truck + ")", INDEX, () -> rota.isOpen(truck));
        }
    }

    private static void assignments() {
        FoodTruckRota rota = Rotas.open(5);
        Check.same("assignments()", rota.assignments(), 5);
        Check.same("assignmentsByTrucks()", rota.assignmentsByTrucks(), 5);
        rota.addTruck();
        rota.grantPermit(5, 6);
        rota.assign(5, 4, 6);
        rota.release(0, 0);
        rota.grantPermit(0, 6);
        rota.assign(0, 0, 6);
        Check.same("assignments()", rota.assignments(), 6);
        Check.same("assignmentsByTrucks()", rota.assignmentsByTrucks(), 6);
        rota.revokePermit(0, 6);
        Check.same("assignments()", rota.assignments(), 5);
        Check.same("assignmentsByTrucks()", rota.assignmentsByTrucks(), 5);
    }

    private static void firstFreeDay() {
        FoodTruckRota rota = Rotas.open(5);
        rota.addTruck();
        for (int truck = 0; truck < 6; truck++) {
            int present = truck;
            Check.fails("firstFreeDay(" + truck + ")", ELEMENT, () -> rota.firstFreeDay(present));
        }
        rota.grantPermit(5, 0);
        Check.fails("firstFreeDay(5), all pitches assigned", ELEMENT, () -> rota.firstFreeDay(5));
        rota.grantPermit(5, 6);
        Check.same("firstFreeDay(5)", rota.firstFreeDay(5), 6);
        rota.grantPermit(5, 3);
        Check.same("firstFreeDay(5)", rota.firstFreeDay(5), 3);
        rota.assign(5, 0, 3);
        Check.same("firstFreeDay(5)", rota.firstFreeDay(5), 6);
        rota.release(4, 0);
        Check.same("firstFreeDay(5)", rota.firstFreeDay(5), 0);
        Check.same("firstFreeDay(4)", rota.firstFreeDay(4), 0);
        Check.fails("firstFreeDay(6)", INDEX, () -> rota.firstFreeDay(6));
        Check.fails("firstFreeDay(-1)", INDEX, () -> rota.firstFreeDay(-1));
    }

    private static void firstFreePitch() {
        FoodTruckRota rota = Rotas.open(5);
        Check.fails("firstFreePitch(0)", ELEMENT, () -> rota.firstFreePitch(0));
        Check.same("firstFreePitch(6)", rota.firstFreePitch(6), 0);
        rota.release(4, 0);
        Check.same("firstFreePitch(0)", rota.firstFreePitch(0), 4);
        rota.release(2, 0);
        Check.same("firstFreePitch(0)", rota.firstFreePitch(0), 2);
        for (int weekday : NO_WEEKDAY) {
            Check.fails("firstFreePitch(" + weekday + ")", ARGUMENT, () -> rota.firstFreePitch(weekday));
        }
    }

    private static void queue() {
        FoodTruckRota rota = Rotas.trucks(2);
        rota.grantPermit(1, 0);
        rota.assign(1, 3, 0);
        rota.addStock(1, 2, 5);
        rota.setWeather(3);
        rota.advance(3);
        Check.same("queueLength(0)", rota.queueLength(0), 0);
        Check.same("queueLength(1)", rota.queueLength(1), 7);
        int[] wanted = {2, 3, 0, 1, 2, 3, 0};
        for (int position = 0; position < 7; position++) {
            Check.same("wantedDish(1, " + position + ")", rota.wantedDish(1, position), wanted[position]);
        }
        int[] none = {7, 8, 9, -1, Integer.MAX_VALUE, Integer.MIN_VALUE};
        for (int position : none) {
            Check.fails("wantedDish(1, " + position + ")", ELEMENT, () -> rota.wantedDish(1, position));
        }
        Check.fails("wantedDish(0, 0)", ELEMENT, () -> rota.wantedDish(0, 0));
        for (int truck : NO_TRUCK) {
            Check.fails("queueLength(" + truck + ")", INDEX, () -> rota.queueLength(truck));
            Check.fails("wantedDish(" + truck + ", -1)", INDEX, () -> rota.wantedDish(truck, -1));
        }
    }

    private static void times() {
        FoodTruckRota rota = Rotas.trucks(2);
        rota.grantPermit(0, 0);
        rota.assign(0, 3, 0);
        rota.addStock(0, 3, 5);
        rota.setWeather(3);
        rota.advance(3);
        Check.same("queue", Rotas.queue(rota, 0), "301230");
        Check.same("queueTime(0)", rota.queueTime(0), 15);
        Check.same("minutesLeft(0)", rota.minutesLeft(0), 0);
        rota.setWeather(0);
        for (int minute = 1; minute <= 3; minute++) {
            rota.advance(1);
            Check.same("queueTime(0)", rota.queueTime(0), 15 - minute);
            Check.same("minutesLeft(0)", rota.minutesLeft(0), 4 - minute);
            Check.same("queueLength(0)", rota.queueLength(0), 6);
        }
        rota.advance(1);
        Check.same("queueTime(0)", rota.queueTime(0), 11);
        Check.same("minutesLeft(0)", rota.minutesLeft(0), 0);
        Check.same("queueTime(1)", rota.queueTime(1), 0);
        Check.same("minutesLeft(1)", rota.minutesLeft(1), 0);
        for (int truck : NO_TRUCK) {
            Check.fails("minutesLeft(" + truck + ")", INDEX, () -> rota.minutesLeft(truck));
            Check.fails("queueTime(" + truck + ")", INDEX, () -> rota.queueTime(truck));
        }
    }

    private static String ranking(FoodTruckRota rota) {
        StringBuilder text = new StringBuilder();
        for (int rank = 0; rank < rota.truckCount(); rank++) {
            text.append(rota.truckByCoins(rank));
        }
        return text.toString();
    }

    private static void truckByCoins() {
        FoodTruckRota rota = Rotas.trucks(6);
        Check.same("ranking", ranking(rota), "012345");
        rota.addStock(4, 0, 3);
        rota.addStock(2, 3, 1);
        rota.addStock(2, 1, 2);
        rota.addStock(5, 3, 4);
        Check.same("ranking", ranking(rota), "524013");
        rota.grantPermit(3, 0);
        rota.assign(3, 0, 0);
        rota.addStock(3, 0, 1);
        rota.advance(1);
        Check.same("ranking", ranking(rota), "352401");
        int[] none = {6, -1, Integer.MIN_VALUE, Integer.MAX_VALUE};
        for (int rank : none) {
            Check.fails("truckByCoins(" + rank + ")", ELEMENT, () -> rota.truckByCoins(rank));
        }
        Check.fails("truckByCoins(0)", ELEMENT, () -> new FoodTruckRota().truckByCoins(0));
        Check.fails("truckByCoins(2)", ELEMENT, () -> Rotas.trucks(2).truckByCoins(2));
    }

    private static void weather() {
        FoodTruckRota rota = new FoodTruckRota();
        Check.same("weather()", rota.weather(), 1);
        for (int customers = 0; customers <= 3; customers++) {
            rota.setWeather(customers);
            Check.same("weather()", rota.weather(), customers);
        }
        rota.advance(60);
        Check.same("weather()", rota.weather(), 3);
    }

    private static void totals() {
        FoodTruckRota rota = Rotas.open(1);
        rota.addStock(0, 0, 1);
        rota.addStock(0, 1, 1);
        rota.setWeather(3);
        rota.advance(1);
        Check.same("servedTotal()", rota.servedTotal(), 1);
        rota.advance(4);
        Check.same("arrivedTotal()", rota.arrivedTotal(), 15);
        Check.same("servedTotal()", rota.servedTotal(), 2);
        Check.same("disappointedTotal()", rota.disappointedTotal(), 2);
        Check.same("lostTotal()", rota.lostTotal(), 3);
        Check.same("queueLength(0)", rota.queueLength(0), 8);
        rota.revokePermit(0, 0);
        Check.same("disappointedTotal()", rota.disappointedTotal(), 10);
        rota.advance(2);
        Check.same("arrivedTotal()", rota.arrivedTotal(), 21);
        Check.same("lostTotal()", rota.lostTotal(), 9);
        Check.same("servedTotal()", rota.servedTotal(), 2);
    }

    private static void soldPortions() {
        FoodTruckRota rota = Rotas.stocked(3, 2);
        rota.setWeather(2);
        rota.advance(60);
        for (int dish = 0; dish < 4; dish++) {
            int left = rota.stock(0, dish) + rota.stock(1, dish) + rota.stock(2, dish);
            Check.same("soldPortions(" + dish + ")", rota.soldPortions(dish), 6 - left);
        }
        Check.same("soldPortions(0)", rota.soldPortions(0), 6);
        for (int dish : NO_DISH) {
            Check.fails("soldPortions(" + dish + ")", INDEX, () -> rota.soldPortions(dish));
        }
    }

    private static void meanCoins() {
        Check.fails("meanCoins()", ArithmeticException.class, () -> new FoodTruckRota().meanCoins());
        FoodTruckRota rota = Rotas.trucks(3);
        Check.same("meanCoins()", rota.meanCoins(), 0.0);
        rota.grantPermit(2, 0);
        rota.assign(2, 0, 0);
        rota.addStock(2, 0, 1);
        rota.advance(1);
        Check.same("meanCoins()", rota.meanCoins(), 5.0 / 3.0);
        Check.same("sum", rota.coins(0) + rota.coins(1) + rota.coins(2), 5);
    }

    private static void servedShare() {
        FoodTruckRota rota = Rotas.open(1);
        Check.fails("servedShare()", ArithmeticException.class, rota::servedShare);
        rota.setWeather(3);
        rota.addStock(0, 0, 1);
        rota.advance(1);
        Check.same("servedShare()", rota.servedShare(), 1.0f / 3.0f);
        rota.advance(1);
        Check.same("servedShare()", rota.servedShare(), 1.0f / 6.0f);
        FoodTruckRota closed = Rotas.trucks(1);
        closed.advance(1);
        Check.same("servedShare()", closed.servedShare(), 0.0f);
    }

    private static void isConsistent() {
        FoodTruckRota rota = Rotas.stocked(5, 20);
        rota.setWeather(3);
        for (int minute = 0; minute < 70; minute++) {
            rota.advance(1);
            Check.same("isConsistent()", rota.isConsistent(), true);
        }
        rota.advance(50);
        rota.revokePermit(1, 0);
        Check.same("isConsistent()", rota.isConsistent(), true);
        rota.undo();
        rota.undo();
        Check.same("isConsistent()", rota.isConsistent(), true);
    }

    private static void renderDay() {
        FoodTruckRota rota = Rotas.trucks(3);
        rota.grantPermit(0, 2);
        rota.grantPermit(1, 2);
        rota.grantPermit(2, 2);
        rota.assign(0, 0, 2);
        rota.assign(2, 1, 2);
        rota.assign(1, 4, 2);
        Check.same("renderDay(2)", rota.renderDay(2), 5);
        Check.same("renderDay(2)", Rotas.dayText(rota, 2), "02--1");
        Check.same("renderDay(6)", Rotas.dayText(rota, 6), "-----");
        Rotas.dayText(rota, 2);
        for (int weekday : NO_WEEKDAY) {
            Check.fails("renderDay(" + weekday + ")", ARGUMENT, () -> rota.renderDay(weekday));
        }
        Check.same("the text before", Rotas.text(rota, 5), "02--1");
    }

    private static void renderTruck() {
        FoodTruckRota rota = Rotas.trucks(2);
        rota.addStock(1, 0, 50);
        rota.addStock(1, 0, 49);
        rota.addStock(1, 2, 12);
        Check.same("renderTruck(1)", Rotas.truckText(rota, 1), "t1:99,0,12,0$0");
        rota.grantPermit(1, 0);
        rota.assign(1, 3, 0);
        Check.same("renderTruck(1)", Rotas.truckText(rota, 1), "t1:99,0,12,0$0@3");
        rota.setWeather(3);
        rota.setPrice(0, 20);
        rota.advance(1);
        Check.same("renderTruck(1)", rota.renderTruck(1), 19);
        Check.same("renderTruck(1)", Rotas.truckText(rota, 1), "t1:98,0,12,0$20@3qq");
        Check.same("renderTruck(0)", Rotas.truckText(rota, 0), "t0:0,0,0,0$0");
        for (int truck : NO_TRUCK) {
            Check.fails("renderTruck(" + truck + ")", INDEX, () -> rota.renderTruck(truck));
        }
        Check.same("the text before", Rotas.text(rota, 12), "t0:0,0,0,0$0");
        rota.advance(30);
        rota.release(3, 0);
        int coins = rota.coins(1);
        Check.same("renderTruck(1)", Rotas.truckText(rota, 1), "t1:" + rota.stock(1, 0) + ",0," + rota.stock(1, 2) + ",0$" + coins);
        Check.same("coins of many", coins > 99, true);
    }

    private static void outputAt() {
        FoodTruckRota rota = Rotas.trucks(1);
        Check.fails("outputAt(0)", INDEX, () -> rota.outputAt(0));
        rota.renderTruck(0);
        Check.same("outputAt(0)", rota.outputAt(0), 't');
        Check.same("outputAt(11)", rota.outputAt(11), '0');
        int[] none = {12, -1, Integer.MIN_VALUE, Integer.MAX_VALUE};
        for (int index : none) {
            Check.fails("outputAt(" + index + ")", INDEX, () -> rota.outputAt(index));
        }
        rota.renderDay(0);
        Check.same("outputAt(4)", rota.outputAt(4), '-');
        Check.fails("outputAt(5)", INDEX, () -> rota.outputAt(5));
    }
}
