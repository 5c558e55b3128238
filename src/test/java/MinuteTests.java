/** Promise 10 and what "One minute" says; the totals and predictions that follow from it. */
final class MinuteTests {
    private static final Class<IllegalArgumentException> ARGUMENT = IllegalArgumentException.class;

    private MinuteTests() {
    }

    static void run() {
        Check.test("promise 10: advance, wrong inputs", MinuteTests::advanceWrong);
        Check.test("promise 10: the times of the dishes", MinuteTests::timesOfDishes);
        Check.test("promise 10: customers join the shortest queue", MinuteTests::shortestQueue);
        Check.test("promise 10: the pitch, not the truck, breaks a tie", MinuteTests::tieByPitch);
        Check.test("promise 10: a queue is never longer than 9", MinuteTests::fullQueue);
        Check.test("promise 10: no open truck, all are lost", MinuteTests::allLost);
        Check.test("promise 10: a dish that is not in stock costs the minute", MinuteTests::disappointed);
        Check.test("promise 10: the price of the last minute counts", MinuteTests::priceAtTheEnd);
        Check.test("promise 10: stock falls when the dish is ready", MinuteTests::stockAtTheEnd);
        Check.test("promise 10: the day ends after 60 minutes", MinuteTests::dayEnds);
        Check.test("promise 10: the week starts again after 7 days", MinuteTests::weekStartsAgain);
        Check.test("promise 10: no customers in weather 0", MinuteTests::noCustomers);
        Check.test("promise 27: servedWithin", MinuteTests::servedWithin);
        Check.test("promises 29 and 30: day and minute", MinuteTests::clock);
    }

    private static void advanceWrong() {
        FoodTruckRota rota = Rotas.open(1);
        int[] wrong = {0, -1, 61, Integer.MIN_VALUE, Integer.MAX_VALUE};
        for (int minutes : wrong) {
            Check.fails("advance(" + minutes + ")", ARGUMENT, () -> rota.advance(minutes));
        }
        Check.same("minute()", rota.minute(), 0);
        Check.same("arrivedTotal()", rota.arrivedTotal(), 0);
        Check.same("advance(60)", rota.advance(60), 0);
        Check.same("arrivedTotal()", rota.arrivedTotal(), 60);
    }

    private static void timesOfDishes() {
        FoodTruckRota rota = Rotas.stocked(1, 9);
        int[] served = {1, 0, 1, 0, 0, 1, 0, 0, 0, 1};
        int[] left = {0, 1, 0, 2, 1, 0, 3, 2, 1, 0};
        for (int minute = 0; minute < 10; minute++) {
            Check.same("advance(1) " + minute, rota.advance(1), served[minute]);
            Check.same("minutesLeft(0) " + minute, rota.minutesLeft(0), left[minute]);
        }
        Check.same("truck 0", Rotas.truckText(rota, 0), "t0:8,8,8,8$20@0qqqqqq");
        Check.same("queue", Rotas.queue(rota, 0), "012301");
        Check.same("advance(10)", rota.advance(10), 4);
        Check.same("servedTotal()", rota.servedTotal(), 8);
    }

    private static void shortestQueue() {
        FoodTruckRota rota = Rotas.open(3);
        for (int truck = 0; truck < 3; truck++) {
            rota.addStock(truck, 3, 9);
            rota.addStock(truck, 2, 9);
        }
        rota.setWeather(3);
        rota.advance(1);
        Check.same("queue 0", Rotas.queue(rota, 0), "");
        Check.same("queue 1", Rotas.queue(rota, 1), "");
        Check.same("queue 2", Rotas.queue(rota, 2), "2");
        rota.advance(1);
        Check.same("queue 0", Rotas.queue(rota, 0), "31");
        Check.same("queue 1", Rotas.queue(rota, 1), "");
        Check.same("queue 2", Rotas.queue(rota, 2), "2");
        rota.advance(1);
        Check.same("queue 0", Rotas.queue(rota, 0), "31");
        Check.same("queue 1", Rotas.queue(rota, 1), "23");
        Check.same("queue 2", Rotas.queue(rota, 2), "0");
        Check.same("disappointedTotal()", rota.disappointedTotal(), 3);
        Check.same("servedTotal()", rota.servedTotal(), 1);
    }

    private static void tieByPitch() {
        FoodTruckRota rota = Rotas.trucks(2);
        rota.grantPermit(0, 0);
        rota.grantPermit(1, 0);
        rota.assign(0, 3, 0);
        rota.assign(1, 1, 0);
        for (int truck = 0; truck < 2; truck++) {
            for (int dish = 0; dish < 4; dish++) {
                rota.addStock(truck, dish, 9);
            }
        }
        rota.setWeather(3);
        rota.advance(1);
        Check.same("queue 1", Rotas.queue(rota, 1), "2");
        Check.same("queue 0", Rotas.queue(rota, 0), "1");
        Check.same("minutesLeft(0)", rota.minutesLeft(0), 1);
        Check.same("soldPortions(0)", rota.soldPortions(0), 1);
    }

    private static void fullQueue() {
        FoodTruckRota rota = Rotas.stocked(1, 9);
        rota.setWeather(3);
        rota.advance(4);
        Check.same("queueLength(0)", rota.queueLength(0), 9);
        Check.same("lostTotal()", rota.lostTotal(), 1);
        Check.same("queue", Rotas.queue(rota, 0), "230123012");
        rota.advance(1);
        Check.same("lostTotal()", rota.lostTotal(), 4);
        rota.advance(1);
        Check.same("lostTotal()", rota.lostTotal(), 7);
        Check.same("queue", Rotas.queue(rota, 0), "30123012");
        rota.advance(1);
        Check.same("queue", Rotas.queue(rota, 0), "301230122");
        Check.same("lostTotal()", rota.lostTotal(), 9);
        Check.same("isConsistent()", rota.isConsistent(), true);
    }

    private static void allLost() {
        FoodTruckRota rota = Rotas.trucks(2);
        rota.grantPermit(0, 1);
        rota.assign(0, 0, 1);
        rota.setWeather(2);
        Check.same("advance(3)", rota.advance(3), 0);
        Check.same("lostTotal()", rota.lostTotal(), 6);
        Check.same("arrivedTotal()", rota.arrivedTotal(), 6);
        Check.same("disappointedTotal()", rota.disappointedTotal(), 0);
        rota.grantPermit(1, 0);
        rota.assign(1, 0, 0);
        rota.addStock(1, 3, 1);
        rota.advance(1);
        Check.same("queue 1", Rotas.queue(rota, 1), "3");
        Check.same("disappointedTotal()", rota.disappointedTotal(), 1);
    }

    private static void disappointed() {
        FoodTruckRota rota = Rotas.open(1);
        rota.addStock(0, 1, 1);
        rota.setWeather(2);
        Check.same("advance(1)", rota.advance(1), 0);
        Check.same("queue", Rotas.queue(rota, 0), "1");
        Check.same("disappointedTotal()", rota.disappointedTotal(), 1);
        Check.same("minutesLeft(0)", rota.minutesLeft(0), 0);
        Check.same("advance(2)", rota.advance(2), 1);
        Check.same("queue", Rotas.queue(rota, 0), "2301");
        Check.same("advance(4)", rota.advance(4), 0);
        Check.same("disappointedTotal()", rota.disappointedTotal(), 5);
        Check.same("stock(0, 1)", rota.stock(0, 1), 0);
    }

    private static void priceAtTheEnd() {
        FoodTruckRota rota = Rotas.stocked(1, 9);
        rota.advance(2);
        Check.same("coins(0)", rota.coins(0), 5);
        rota.setPrice(1, 13);
        rota.advance(1);
        Check.same("coins(0)", rota.coins(0), 18);
        rota.setPrice(1, 20);
        Check.same("coins(0)", rota.coins(0), 18);
    }

    private static void stockAtTheEnd() {
        FoodTruckRota rota = Rotas.stocked(1, 50);
        rota.addStock(0, 1, 49);
        rota.advance(2);
        Check.same("stock(0, 1)", rota.stock(0, 1), 99);
        Check.same("soldPortions(1)", rota.soldPortions(1), 0);
        rota.advance(1);
        Check.same("stock(0, 1)", rota.stock(0, 1), 98);
        Check.same("soldPortions(1)", rota.soldPortions(1), 1);
    }

    private static void dayEnds() {
        FoodTruckRota rota = Rotas.stocked(2, 50);
        rota.grantPermit(1, 1);
        rota.assign(1, 4, 1);
        rota.setWeather(2);
        rota.advance(59);
        Check.same("minute()", rota.minute(), 59);
        int waiting = rota.queueLength(0) + rota.queueLength(1);
        int gone = rota.disappointedTotal();
        int served = rota.advance(1);
        Check.same("minute()", rota.minute(), 0);
        Check.same("day()", rota.day(), 1);
        int joined = 2 - (rota.lostTotal() - lostBefore(rota));
        Check.same("disappointedTotal()", rota.disappointedTotal(), gone + waiting + joined - served);
        Check.same("queueLength(0)", rota.queueLength(0), 0);
        Check.same("minutesLeft(0)", rota.minutesLeft(0), 0);
        Check.same("queueLength(1)", rota.queueLength(1), 0);
        Check.same("minutesLeft(1)", rota.minutesLeft(1), 0);
        Check.same("isOpen(0)", rota.isOpen(0), false);
        Check.same("isOpen(1)", rota.isOpen(1), true);
        Check.same("isConsistent()", rota.isConsistent(), true);
    }

    private static int lostBefore(FoodTruckRota rota) {
        int now = rota.lostTotal();
        rota.undo();
        int before = rota.lostTotal();
        rota.advance(1);
        Check.same("lostTotal()", rota.lostTotal(), now);
        return before;
    }

    private static void weekStartsAgain() {
        FoodTruckRota rota = Rotas.stocked(1, 50);
        for (int day = 0; day < 7; day++) {
            Check.same("isOpen(0) on day " + day, rota.isOpen(0), day == 0);
            Check.same("served on day " + day, rota.advance(60) > 0, day == 0);
        }
        Check.same("day()", rota.day(), 7);
        Check.same("isOpen(0)", rota.isOpen(0), true);
        Check.same("served", rota.advance(60) > 0, true);
        Check.same("isOpen(0)", rota.isOpen(0), false);
        Check.same("day()", rota.day(), 8);
    }

    private static void noCustomers() {
        FoodTruckRota rota = Rotas.stocked(1, 9);
        rota.setWeather(0);
        Check.same("advance(30)", rota.advance(30), 0);
        Check.same("arrivedTotal()", rota.arrivedTotal(), 0);
        Check.same("minute()", rota.minute(), 30);
    }

    private static void servedWithin() {
        FoodTruckRota rota = Rotas.stocked(2, 9);
        rota.grantPermit(0, 1);
        rota.assign(0, 0, 1);
        rota.setWeather(3);
        rota.advance(50);
        String before = Rotas.all(rota);
        int[] predicted = new int[61];
        for (int minutes = 0; minutes <= 60; minutes++) {
            predicted[minutes] = rota.servedWithin(minutes);
        }
        Check.same("all", Rotas.all(rota), before);
        Check.same("servedWithin(0)", predicted[0], 0);
        Check.same("over the end of the day", predicted[60] > predicted[10], true);
        for (int minutes = 1; minutes <= 60; minutes++) {
            Check.same("advance(" + minutes + ")", rota.advance(minutes), predicted[minutes]);
            rota.undo();
        }
        Check.fails("servedWithin(-1)", ARGUMENT, () -> rota.servedWithin(-1));
        Check.fails("servedWithin(61)", ARGUMENT, () -> rota.servedWithin(61));
        Check.same("servedWithin(60) of nothing", new FoodTruckRota().servedWithin(60), 0);
    }

    private static void clock() {
        FoodTruckRota rota = new FoodTruckRota();
        rota.advance(45);
        Check.same("minute()", rota.minute(), 45);
        Check.same("day()", rota.day(), 0);
        rota.advance(45);
        Check.same("minute()", rota.minute(), 30);
        Check.same("day()", rota.day(), 1);
        rota.advance(30);
        Check.same("minute()", rota.minute(), 0);
        Check.same("day()", rota.day(), 2);
    }
}
