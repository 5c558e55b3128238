/** The sentences under "One minute". Without other words, trucks prepare only dishes that they got in stock here. */
final class OneMinuteTests {
    private static final String HEAD = "One minute";

    private OneMinuteTests() {
    }

    static void run() {
        runArrivals();
        runWork();
        runDayEnd();
    }

    private static void runArrivals() {
        Sentences.test(HEAD, "When a minute passes, these steps are carried out in order.", OneMinuteTests::inOrder);
        Sentences.test(HEAD, "as many customers arrive as the weather says", OneMinuteTests::asTheWeatherSays);
        Sentences.test(HEAD, "one after the other", OneMinuteTests::oneAfterTheOther);
        Sentences.test(HEAD, "each joins the queue of the open truck with the shortest queue", OneMinuteTests::shortestQueue);
        Sentences.test(HEAD, "among several such trucks of the one on the pitch with the lowest index",
                OneMinuteTests::lowestPitch);
        Sentences.test(HEAD, "A customer who would make a queue longer than 9", OneMinuteTests::ninthAndTenth);
        Sentences.test(HEAD, "A customer who would make a queue longer than 9", OneMinuteTests::twoFullQueues);
        Sentences.test(HEAD, "or finds no open truck, goes away and is lost", OneMinuteTests::noOpenTruck);
        Sentences.test(HEAD, "counted from 0 and including lost ones, wants the dish n modulo 4", OneMinuteTests::wishesWrapAround);
        Sentences.test(HEAD, "The n-th customer of all days", OneMinuteTests::wishesOfAllDays);
    }

    private static void runWork() {
        Sentences.test(HEAD, "Second, each open truck, in the order of pitches, works for one minute",
                OneMinuteTests::eachOpenTruck);
        Sentences.test(HEAD, "if it is not preparing a dish, the first customer of its queue is looked at",
                OneMinuteTests::firstCustomer);
        Sentences.test(HEAD, "if the truck has a portion of the wanted dish in stock, it starts to prepare it",
                OneMinuteTests::lastPortion);
        Sentences.test(HEAD, "otherwise this customer leaves disappointed and the truck does nothing more in this minute",
                OneMinuteTests::leavesDisappointed);
        Sentences.test(HEAD, "the first customer of its queue is looked at", OneMinuteTests::emptyQueue);
        Sentences.test(HEAD, "A truck that is preparing a dish, or has just started, prepares it for this minute",
                OneMinuteTests::startedMinuteCounts);
        Sentences.test(HEAD, "when the time of the dish is used up, the customer leaves served, the stock of the dish"
                + " decreases by 1", OneMinuteTests::timeUsedUp);
        Sentences.test(HEAD, "the truck earns the price of the dish at this moment", OneMinuteTests::priceAtThisMoment);
    }

    private static void runDayEnd() {
        Sentences.test(HEAD, "Third, the minute counter increases by 1.", OneMinuteTests::minuteCounts);
        Sentences.test(HEAD, "If it is 60 then, the day ends", OneMinuteTests::dayEndsAtSixty);
        Sentences.test(HEAD, "all customers in queues leave disappointed", OneMinuteTests::allLeave);
        Sentences.test(HEAD, "all preparations are dropped", OneMinuteTests::preparationsAreDropped);
        Sentences.test(HEAD, "all preparations are dropped", OneMinuteTests::servedInTheLastMinute);
        Sentences.test(HEAD, "the day counter increases by 1, and the minute counter becomes 0", OneMinuteTests::nextDay);
    }

    private static void inOrder() {
        FoodTruckRota rota = Rotas.open(1);
        rota.addStock(0, 0, 1);
        Check.same("who arrives is looked at in the same minute", rota.advance(1), 1);
        FoodTruckRota full = Rotas.queueing(9);
        Check.same("minutesLeft(0)", full.minutesLeft(0), 1);
        full.setWeather(1);
        int lost = full.lostTotal();
        Check.same("advance(1)", full.advance(1), 1);
        Check.same("lost before the place became free", full.lostTotal(), lost + 1);
        Check.same("queueLength(0)", full.queueLength(0), 8);
        FoodTruckRota evening = Rotas.open(1);
        evening.addStock(0, 0, 1);
        evening.setWeather(0);
        evening.advance(59);
        evening.setWeather(1);
        Check.same("served before the day ends", evening.advance(1), 1);
        Check.same("disappointedTotal()", evening.disappointedTotal(), 0);
    }

    private static void asTheWeatherSays() {
        for (int customers = 0; customers <= 3; customers++) {
            FoodTruckRota rota = Rotas.open(1);
            rota.setWeather(customers);
            rota.advance(1);
            Check.same("arrivedTotal() after 1 minute", rota.arrivedTotal(), customers);
            rota.advance(60);
            Check.same("arrivedTotal() after 61 minutes", rota.arrivedTotal(), 61 * customers);
        }
    }

    private static void oneAfterTheOther() {
        FoodTruckRota rota = Rotas.open(3);
        for (int truck = 0; truck < 3; truck++) {
            rota.addStock(truck, truck, 1);
        }
        rota.setWeather(3);
        Check.same("advance(1)", rota.advance(1), 1);
        Check.same("coins(0)", rota.coins(0), 5);
        Check.same("queue 1", Rotas.queue(rota, 1), "1");
        Check.same("queue 2", Rotas.queue(rota, 2), "2");
        Check.same("disappointedTotal()", rota.disappointedTotal(), 0);
    }

    /** Truck 2 stands on pitch 0, truck 1 on pitch 2 and truck 0 on pitch 4. */
    private static FoodTruckRota threeAgainstTheirIndices() {
        FoodTruckRota rota = Rotas.trucks(3);
        for (int truck = 0; truck < 3; truck++) {
            Rotas.permitAndAssign(rota, truck, 4 - 2 * truck, 0);
            for (int dish = 0; dish < 4; dish++) {
                rota.addStock(truck, dish, 9);
            }
        }
        return rota;
    }

    private static String queues(FoodTruckRota rota) {
        return Rotas.queue(rota, 2) + "/" + Rotas.queue(rota, 1) + "/" + Rotas.queue(rota, 0);
    }

    private static void shortestQueue() {
        FoodTruckRota rota = threeAgainstTheirIndices();
        rota.setWeather(3);
        rota.advance(1);
        Check.same("queues on pitches 0, 2 and 4", queues(rota), "/1/2");
        rota.advance(1);
        Check.same("queues on pitches 0, 2 and 4", queues(rota), "30/1/2");
        rota.advance(1);
        Check.same("queues on pitches 0, 2 and 4", queues(rota), "300/12/3");
    }

    private static void lowestPitch() {
        FoodTruckRota rota = threeAgainstTheirIndices();
        rota.advance(2);
        Check.same("of three empty queues that on pitch 0", queues(rota), "1//");
        rota.setWeather(2);
        rota.advance(1);
        Check.same("of two empty queues that on pitch 2, then that on pitch 4", queues(rota), "/2/3");
    }

    private static void ninthAndTenth() {
        FoodTruckRota eight = Rotas.queueing(8);
        Check.same("lostTotal() before", eight.lostTotal(), 3);
        eight.setWeather(1);
        eight.advance(1);
        Check.same("the 9th joins, the first is served", Rotas.queue(eight, 0), "01230123");
        Check.same("lostTotal() after the 9th", eight.lostTotal(), 3);
        FoodTruckRota nine = Rotas.queueing(9);
        nine.setWeather(1);
        nine.advance(1);
        Check.same("the 10th is lost, the first is served", Rotas.queue(nine, 0), "01230123");
        Check.same("lostTotal() after the 10th", nine.lostTotal(), 4);
        FoodTruckRota three = Rotas.queueing(8);
        three.setWeather(3);
        three.advance(1);
        Check.same("lostTotal() after the 9th, 10th and 11th", three.lostTotal(), 5);
        Check.same("arrivedTotal()", three.arrivedTotal(), 14);
    }

    private static void twoFullQueues() {
        FoodTruckRota rota = Rotas.stocked(2, 50);
        rota.setWeather(3);
        boolean bothFull = false;
        boolean oneFull = false;
        for (int minute = 1; minute < 50; minute++) {
            int places = 18 - rota.queueLength(0) - rota.queueLength(1);
            bothFull = bothFull || places == 0;
            oneFull = oneFull || places > 0 && (rota.queueLength(0) == 9 || rota.queueLength(1) == 9);
            int lost = rota.lostTotal();
            rota.advance(1);
            Check.same("lost in minute " + minute, rota.lostTotal() - lost, Math.max(0, 3 - places));
            Check.same("queues", rota.queueLength(0) <= 9 && rota.queueLength(1) <= 9, true);
        }
        Check.same("a time with two full queues", bothFull, true);
        Check.same("a time with one full queue", oneFull, true);
    }

    private static void noOpenTruck() {
        FoodTruckRota none = new FoodTruckRota();
        none.setWeather(3);
        none.advance(1);
        Check.same("lostTotal() without trucks", none.lostTotal(), 3);
        FoodTruckRota closed = Rotas.trucks(2);
        closed.grantPermit(0, 0);
        Rotas.permitAndAssign(closed, 1, 0, 1);
        closed.advance(1);
        Check.same("lostTotal() with closed trucks", closed.lostTotal(), 1);
        Check.same("disappointedTotal()", closed.disappointedTotal(), 0);
        closed.assign(0, 4, 0);
        closed.advance(1);
        Check.same("lostTotal() with an open truck", closed.lostTotal(), 1);
    }

    private static void wishesWrapAround() {
        FoodTruckRota rota = Rotas.trucks(1);
        rota.setWeather(3);
        rota.advance(1);
        Rotas.permitAndAssign(rota, 0, 0, 0);
        rota.addStock(0, 3, 1);
        rota.advance(3);
        Check.same("customers 3 to 11", Rotas.queue(rota, 0), "301230123");
    }

    private static void wishesOfAllDays() {
        FoodTruckRota rota = Rotas.trucks(1);
        rota.setWeather(3);
        rota.advance(60);
        rota.setWeather(1);
        rota.advance(1);
        Rotas.permitAndAssign(rota, 0, 0, 1);
        rota.setWeather(3);
        rota.advance(1);
        Check.same("customers 182 and 183", Rotas.queue(rota, 0), "23");
        rota.advance(1);
        Check.same("customers 183 to 186", Rotas.queue(rota, 0), "3012");
        rota.advance(60);
        Check.same("arrivedTotal()", rota.arrivedTotal(), 367);
    }

    private static void eachOpenTruck() {
        FoodTruckRota rota = Rotas.open(5);
        for (int truck = 0; truck < 5; truck++) {
            rota.addStock(truck, 3, 2);
        }
        rota.addTruck();
        rota.addStock(5, 3, 2);
        rota.advance(4);
        Check.same("the first to get dish 3", rota.minutesLeft(0), 3);
        rota.setWeather(3);
        rota.advance(30);
        for (int truck = 0; truck < 5; truck++) {
            Check.same("coins(" + truck + ")", rota.coins(truck), 10);
        }
        Check.same("coins(5), closed", rota.coins(5), 0);
        Check.same("stock(5, 3), closed", rota.stock(5, 3), 2);
    }

    private static void firstCustomer() {
        FoodTruckRota rota = Rotas.open(1);
        rota.addStock(0, 2, 1);
        rota.setWeather(3);
        rota.advance(1);
        rota.setWeather(0);
        Check.same("queue", Rotas.queue(rota, 0), "12");
        Check.same("minutesLeft(0)", rota.minutesLeft(0), 0);
        rota.advance(1);
        Check.same("queue", Rotas.queue(rota, 0), "2");
        Check.same("minutesLeft(0)", rota.minutesLeft(0), 0);
        rota.advance(1);
        Check.same("minutesLeft(0), dish 2 is first now", rota.minutesLeft(0), 2);
        FoodTruckRota busy = Rotas.queueing(3);
        busy.addStock(0, 0, 9);
        busy.advance(1);
        Check.same("the first is not looked at while his dish is prepared", Rotas.queue(busy, 0), "301");
        Check.same("minutesLeft(0)", busy.minutesLeft(0), 2);
    }

    private static void lastPortion() {
        FoodTruckRota rota = Rotas.open(1);
        rota.addStock(0, 0, 1);
        Check.same("the last portion", rota.advance(1), 1);
        Check.same("stock(0, 0)", rota.stock(0, 0), 0);
        rota.advance(3);
        Check.same("disappointedTotal()", rota.disappointedTotal(), 3);
        Check.same("no portion is left", rota.advance(1), 0);
        Check.same("disappointedTotal()", rota.disappointedTotal(), 4);
        FoodTruckRota late = Rotas.open(1);
        late.setWeather(2);
        late.advance(1);
        Check.same("queue", Rotas.queue(late, 0), "1");
        late.addStock(0, 1, 1);
        late.advance(1);
        Check.same("minutesLeft(0), the portion came in time", late.minutesLeft(0), 1);
    }

    private static void leavesDisappointed() {
        FoodTruckRota rota = Rotas.open(1);
        rota.addStock(0, 1, 1);
        rota.setWeather(2);
        Check.same("advance(1)", rota.advance(1), 0);
        Check.same("disappointedTotal()", rota.disappointedTotal(), 1);
        Check.same("queue", Rotas.queue(rota, 0), "1");
        Check.same("minutesLeft(0), nothing more in this minute", rota.minutesLeft(0), 0);
        rota.setWeather(0);
        Check.same("advance(1)", rota.advance(1), 0);
        Check.same("minutesLeft(0)", rota.minutesLeft(0), 1);
        FoodTruckRota none = Rotas.open(1);
        none.setWeather(3);
        none.advance(1);
        none.setWeather(0);
        Check.same("one leaves in a minute", none.disappointedTotal(), 1);
        none.advance(1);
        Check.same("one leaves in a minute", none.disappointedTotal(), 2);
        none.advance(1);
        Check.same("one leaves in a minute", none.disappointedTotal(), 3);
        none.advance(1);
        Check.same("nobody is left", none.disappointedTotal(), 3);
        Check.same("coins(0)", none.coins(0), 0);
    }

    private static void emptyQueue() {
        FoodTruckRota rota = Rotas.stocked(1, 9);
        rota.setWeather(0);
        Check.same("advance(59)", rota.advance(59), 0);
        Check.same("truck 0", Rotas.truckText(rota, 0), "t0:9,9,9,9$0@0");
        Check.same("minutesLeft(0)", rota.minutesLeft(0), 0);
        Check.same("disappointedTotal()", rota.disappointedTotal(), 0);
    }

    private static void startedMinuteCounts() {
        FoodTruckRota rota = Rotas.queueing(3);
        Check.same("minutesLeft(0), just started", rota.minutesLeft(0), 3);
        rota.advance(1);
        Check.same("minutesLeft(0)", rota.minutesLeft(0), 2);
        rota.advance(1);
        Check.same("minutesLeft(0)", rota.minutesLeft(0), 1);
        Check.same("advance(1)", rota.advance(1), 1);
        Check.same("minutesLeft(0)", rota.minutesLeft(0), 0);
    }

    private static void timeUsedUp() {
        FoodTruckRota rota = Rotas.queueing(3);
        rota.advance(2);
        Check.same("before", Rotas.truckText(rota, 0), "t0:0,0,0,9$0@0qqq");
        Check.same("servedTotal()", rota.servedTotal(), 0);
        rota.advance(1);
        Check.same("after", Rotas.truckText(rota, 0), "t0:0,0,0,8$5@0qq");
        Check.same("servedTotal()", rota.servedTotal(), 1);
        Check.same("soldPortions(3)", rota.soldPortions(3), 1);
        Check.same("queue", Rotas.queue(rota, 0), "01");
        FoodTruckRota full = Rotas.queueing(3);
        full.addStock(0, 3, 50);
        full.addStock(0, 3, 40);
        full.advance(2);
        Check.fails("addStock before the portion is gone", IllegalStateException.class, () -> full.addStock(0, 3, 1));
        full.advance(1);
        Check.same("addStock after it", full.addStock(0, 3, 1), 99);
    }

    private static void priceAtThisMoment() {
        FoodTruckRota rota = Rotas.queueing(3);
        rota.setPrice(3, 20);
        rota.advance(2);
        rota.setPrice(3, 1);
        rota.advance(1);
        Check.same("coins(0)", rota.coins(0), 1);
        rota.setPrice(3, 20);
        Check.same("coins(0) after setPrice", rota.coins(0), 1);
    }

    private static void minuteCounts() {
        FoodTruckRota rota = Rotas.stocked(1, 9);
        for (int minute = 1; minute < 60; minute++) {
            rota.advance(1);
            Check.same("minute()", rota.minute(), minute);
        }
        rota.advance(1);
        Check.same("minute()", rota.minute(), 0);
    }

    private static void dayEndsAtSixty() {
        FoodTruckRota rota = Rotas.queueing(9);
        rota.setWeather(3);
        rota.advance(55);
        Check.same("minute()", rota.minute(), 59);
        Check.same("day()", rota.day(), 0);
        Check.same("queueLength(0) > 0", rota.queueLength(0) > 0, true);
        rota.advance(1);
        Check.same("minute()", rota.minute(), 0);
        Check.same("day()", rota.day(), 1);
        Check.same("queueLength(0)", rota.queueLength(0), 0);
        FoodTruckRota over = Rotas.trucks(1);
        Rotas.permitAndAssign(over, 0, 0, 1);
        over.addStock(0, 2, 9);
        over.setWeather(0);
        over.advance(58);
        over.setWeather(1);
        over.advance(4);
        Check.same("lost on day 0", over.lostTotal(), 2);
        Check.same("customers of day 1", Rotas.queue(over, 0), "23");
        Check.same("minutesLeft(0)", over.minutesLeft(0), 1);
    }

    /** A truck on days 0 and 1, and so many minutes before the end of day 0 a customer who wants dish 3. */
    private static FoodTruckRota dishBeforeTheEnd(int minutes) {
        FoodTruckRota rota = Rotas.trucks(1);
        rota.setWeather(3);
        rota.advance(1);
        rota.setWeather(0);
        rota.advance(59 - minutes);
        Rotas.permitAndAssign(rota, 0, 0, 0);
        Rotas.permitAndAssign(rota, 0, 0, 1);
        rota.addStock(0, 3, 1);
        rota.setWeather(1);
        rota.advance(1);
        rota.setWeather(0);
        return rota;
    }

    private static void preparationsAreDropped() {
        FoodTruckRota rota = dishBeforeTheEnd(3);
        Check.same("minutesLeft(0)", rota.minutesLeft(0), 3);
        Check.same("served on day 0", rota.advance(2), 0);
        Check.same("minutesLeft(0)", rota.minutesLeft(0), 0);
        Check.same("truck 0", Rotas.truckText(rota, 0), "t0:0,0,0,1$0@0");
        Check.same("disappointedTotal()", rota.disappointedTotal(), 1);
        Check.same("served on day 1", rota.advance(10), 0);
        rota.setWeather(1);
        rota.advance(4);
        Check.same("customer 7 has all 4 minutes of dish 3 before him", rota.minutesLeft(0), 3);
    }

    private static void servedInTheLastMinute() {
        FoodTruckRota rota = dishBeforeTheEnd(4);
        Check.same("advance(3)", rota.advance(3), 1);
        Check.same("day()", rota.day(), 1);
        Check.same("truck 0", Rotas.truckText(rota, 0), "t0:0,0,0,0$5@0");
        Check.same("disappointedTotal()", rota.disappointedTotal(), 0);
    }

    private static void allLeave() {
        FoodTruckRota rota = Rotas.stocked(5, 50);
        rota.addTruck();
        rota.setWeather(3);
        rota.advance(59);
        int gone = rota.disappointedTotal();
        rota.setWeather(0);
        int waiting = 0;
        for (int truck = 0; truck < 5; truck++) {
            waiting += rota.queueLength(truck);
        }
        int served = rota.advance(1);
        Check.same("somebody waited", waiting > 5, true);
        Check.same("disappointedTotal()", rota.disappointedTotal(), gone + waiting - served);
        for (int truck = 0; truck < 6; truck++) {
            Check.same("queueLength(" + truck + ")", rota.queueLength(truck), 0);
            Check.same("minutesLeft(" + truck + ")", rota.minutesLeft(truck), 0);
        }
        FoodTruckRota empty = Rotas.stocked(1, 1);
        empty.setWeather(0);
        empty.advance(60);
        Check.same("disappointedTotal() of empty queues", empty.disappointedTotal(), 0);
    }

    private static void nextDay() {
        FoodTruckRota rota = new FoodTruckRota();
        for (int day = 1; day <= 8; day++) {
            rota.advance(59);
            Check.same("day() and minute()", rota.day() + " " + rota.minute(), day - 1 + " 59");
            rota.advance(1);
            Check.same("day() and minute()", rota.day() + " " + rota.minute(), day + " 0");
        }
    }
}
