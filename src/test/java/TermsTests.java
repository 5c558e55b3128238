/** The limits under "Trucks, dishes and stock", "Rota and permits" and "Days and weather". */
final class TermsTests {
    private static final Class<IndexOutOfBoundsException> INDEX = IndexOutOfBoundsException.class;
    private static final Class<IllegalArgumentException> ARGUMENT = IllegalArgumentException.class;
    private static final Class<IllegalStateException> STATE = IllegalStateException.class;
    private static final Class<UnsupportedOperationException> UNSUPPORTED = UnsupportedOperationException.class;

    private TermsTests() {
    }

    static void run() {
        Sentences.test("What it is", "An object is used for at most 512 calls after it has been made", TermsTests::manyCalls);
        runTrucks();
        runRota();
        runDays();
    }

    private static void runTrucks() {
        String head = "Trucks, dishes and stock";
        Sentences.test(head, "At most 6 trucks have the indices 0 to n - 1 in the order in which they were added",
                TermsTests::truckIndices);
        Sentences.test(head, "trucks are never removed", TermsTests::neverRemoved);
        Sentences.test(head, "There are 4 dishes with the indices 0 to 3.", TermsTests::dishIndices);
        Sentences.test(head, "The dish 0 takes 1 minute to prepare", () -> dishTakes(0, 1));
        Sentences.test(head, "the dish 1 takes 2", () -> dishTakes(1, 2));
        Sentences.test(head, "the dish 2 takes 3", () -> dishTakes(2, 3));
        Sentences.test(head, "the dish 3 takes 4 minutes", () -> dishTakes(3, 4));
        Sentences.test(head, "A truck has a stock of 0 to 99 portions of each dish, initially 0", TermsTests::stockLimits);
        Sentences.test(head, "a number of coins it has earned, initially 0", TermsTests::firstCoins);
        Sentences.test(head, "The price of a dish, the same for all trucks, is from 1 to 20 coins, initially 5.",
                TermsTests::priceLimits);
    }

    private static void runRota() {
        String head = "Rota and permits";
        Sentences.test(head, "The square has 5 pitches with the indices 0 to 4.", TermsTests::pitchIndices);
        Sentences.test(head, "A week has 7 days with the indices 0 to 6.", TermsTests::weekdayIndices);
        Sentences.test(head, "The rota assigns to each pitch and each day of the week at most one truck",
                TermsTests::oneTruckAPitch);
        Sentences.test(head, "on one day of the week, a truck has at most one pitch", TermsTests::onePitchATruck);
        Sentences.test(head, "The rota assigns to each pitch and each day", TermsTests::fullRota);
        Sentences.test(head, "A truck has a permit for a day of the week or not, initially for none.", TermsTests::firstPermits);
        Sentences.test(head, "A truck can be assigned only on days for which it has a permit.", TermsTests::onlyWithPermit);
        Sentences.test(head, "When a permit is revoked, the assignment of the truck on this day of the week ends.",
                TermsTests::revokedEnds);
    }

    private static void runDays() {
        String head = "Days and weather";
        Sentences.test(head, "The day counter starts at 0, and the day of the week is the day counter modulo 7.",
                TermsTests::weekWrapsAround);
        Sentences.test(head, "A truck is open if the rota assigns it to a pitch on the present day of the week.",
                TermsTests::openToday);
        Sentences.test(head, "The weather is a number of customers per minute from 0 to 3, initially 1.",
                TermsTests::weatherLimits);
        Sentences.test(head, "The square is open for 60 minutes on each day", TermsTests::sixtyMinutes);
        Sentences.test(head, "the minute counter starts at 0 on each day", TermsTests::minuteStartsAgain);
    }

    private static void manyCalls() {
        FoodTruckRota rota = new FoodTruckRota();
        rota.setWeather(3);
        for (int call = 1; call <= 509; call++) {
            rota.advance(60);
        }
        Check.same("lostTotal(), the 511th call", rota.lostTotal(), 509 * 180);
        Check.same("day(), the 512th call", rota.day(), 509);
        FoodTruckRota other = new FoodTruckRota();
        for (int call = 1; call <= 511; call++) {
            other.setPrice(3, 1 + call % 20);
        }
        Check.same("undo(), the 512th call", other.undo(), 7);
    }

    private static void truckIndices() {
        FoodTruckRota rota = new FoodTruckRota();
        for (int number = 0; number < 6; number++) {
            int next = number;
            Check.fails("coins(" + next + ") with " + number + " trucks", INDEX, () -> rota.coins(next));
            Check.same("addTruck()", rota.addTruck(), next);
            rota.addStock(next, 0, next + 1);
            Check.same("coins(" + next + ")", rota.coins(next), 0);
        }
        Check.fails("addTruck()", STATE, rota::addTruck);
        Check.fails("coins(6)", INDEX, () -> rota.coins(6));
        for (int truck = 0; truck < 6; truck++) {
            Check.same("stock(" + truck + ", 0)", rota.stock(truck, 0), truck + 1);
        }
    }

    private static void neverRemoved() {
        FoodTruckRota rota = Rotas.open(5);
        rota.addTruck();
        rota.release(0, 0);
        rota.revokePermit(4, 0);
        rota.advance(60);
        rota.advance(60);
        Check.same("truckCount()", rota.truckCount(), 6);
        Check.same("coins(5)", rota.coins(5), 0);
        Check.same("assign(3, 0, 0)", Refusals.answer(rota, same -> same.assign(3, 0, 0)), "IllegalStateException");
    }

    private static void dishIndices() {
        FoodTruckRota rota = Rotas.trucks(1);
        for (int dish = 0; dish < 4; dish++) {
            Check.same("price(" + dish + ")", rota.price(dish), 5);
            Check.same("stock(0, " + dish + ")", rota.stock(0, dish), 0);
            Check.same("soldPortions(" + dish + ")", rota.soldPortions(dish), 0);
            Check.same("setPrice(" + dish + ", 6)", rota.setPrice(dish, 6), 5);
            Check.same("addStock(0, " + dish + ", 7)", rota.addStock(0, dish, 7), 7);
        }
        for (int dish : new int[] {-1, 4}) {
            Check.fails("price(" + dish + ")", INDEX, () -> rota.price(dish));
            Check.fails("stock(0, " + dish + ")", INDEX, () -> rota.stock(0, dish));
            Check.fails("soldPortions(" + dish + ")", INDEX, () -> rota.soldPortions(dish));
            Check.fails("setPrice(" + dish + ", 6)", INDEX, () -> rota.setPrice(dish, 6));
            Check.fails("addStock(0, " + dish + ", 7)", INDEX, () -> rota.addStock(0, dish, 7));
        }
    }

    /** Lets one customer who wants the dish come to an open truck, and nobody after him. */
    private static void dishTakes(int dish, int minutes) {
        FoodTruckRota rota = Rotas.trucks(1);
        rota.addStock(0, dish, 2);
        if (dish > 0) {
            rota.advance(dish);
        }
        Rotas.permitAndAssign(rota, 0, 2, 0);
        for (int minute = 1; minute <= minutes; minute++) {
            Check.same("served in minute " + minute, rota.advance(1), minute == minutes ? 1 : 0);
            Check.same("minutesLeft(0) after minute " + minute, rota.minutesLeft(0), minutes - minute);
            Check.same("stock after minute " + minute, rota.stock(0, dish), minute == minutes ? 1 : 2);
            rota.setWeather(0);
        }
        Check.same("served afterwards", rota.advance(10), 0);
    }

    private static void stockLimits() {
        FoodTruckRota rota = Rotas.open(1);
        for (int dish = 0; dish < 4; dish++) {
            Check.same("stock(0, " + dish + ")", rota.stock(0, dish), 0);
        }
        Check.same("addStock(0, 0, 50)", rota.addStock(0, 0, 50), 50);
        Check.same("addStock(0, 0, 49)", rota.addStock(0, 0, 49), 99);
        Check.fails("addStock(0, 0, 1)", STATE, () -> rota.addStock(0, 0, 1));
        Check.same("stock(0, 1)", rota.stock(0, 1), 0);
        rota.advance(1);
        Check.same("stock(0, 0) after a sale", rota.stock(0, 0), 98);
        Check.same("addStock(0, 0, 1)", rota.addStock(0, 0, 1), 99);
        FoodTruckRota last = Rotas.open(1);
        last.addStock(0, 0, 1);
        Check.same("advance(1)", last.advance(1), 1);
        Check.same("stock(0, 0) after the last sale", last.stock(0, 0), 0);
        Check.same("advance(4)", last.advance(4), 0);
        Check.same("stock(0, 0) is never below", last.stock(0, 0), 0);
        Check.same("disappointedTotal()", last.disappointedTotal(), 4);
    }

    private static void firstCoins() {
        FoodTruckRota rota = Rotas.stocked(1, 9);
        Check.same("coins(0)", rota.coins(0), 0);
        rota.advance(1);
        Check.same("coins(0)", rota.coins(0), 5);
        rota.addTruck();
        Check.same("coins(1)", rota.coins(1), 0);
    }

    private static void priceLimits() {
        FoodTruckRota rota = Rotas.stocked(2, 9);
        for (int dish = 0; dish < 4; dish++) {
            Check.same("price(" + dish + ")", rota.price(dish), 5);
        }
        Check.fails("setPrice(0, 0)", ARGUMENT, () -> rota.setPrice(0, 0));
        Check.fails("setPrice(1, 21)", ARGUMENT, () -> rota.setPrice(1, 21));
        rota.setPrice(0, 1);
        rota.setPrice(1, 20);
        rota.setWeather(2);
        Check.same("advance(2)", rota.advance(2), 2);
        Check.same("coins(0) at the price 1", rota.coins(0), 1);
        Check.same("coins(1) at the price 20", rota.coins(1), 20);
        FoodTruckRota same = Rotas.stocked(2, 9);
        same.setPrice(0, 7);
        same.advance(1);
        same.release(0, 0);
        same.release(1, 0);
        same.advance(3);
        same.assign(1, 1, 0);
        same.advance(1);
        Check.same("coins(0)", same.coins(0), 7);
        Check.same("coins(1)", same.coins(1), 7);
    }

    private static void pitchIndices() {
        FoodTruckRota rota = Rotas.open(5);
        for (int pitch = 0; pitch < 5; pitch++) {
            Check.same("truckAt(" + pitch + ", 0)", rota.truckAt(pitch, 0), pitch);
        }
        rota.addTruck();
        rota.grantPermit(5, 1);
        for (int pitch : new int[] {-1, 5}) {
            Check.fails("truckAt(" + pitch + ", 0)", INDEX, () -> rota.truckAt(pitch, 0));
            Check.fails("assign(5, " + pitch + ", 1)", INDEX, () -> rota.assign(5, pitch, 1));
            Check.fails("release(" + pitch + ", 0)", INDEX, () -> rota.release(pitch, 0));
        }
        Check.same("assign(5, 4, 1)", rota.assign(5, 4, 1), 1);
        Check.same("release(0, 0)", rota.release(0, 0), 0);
    }

    private static void weekdayIndices() {
        FoodTruckRota rota = Rotas.trucks(1);
        for (int weekday = 0; weekday < 7; weekday++) {
            Check.same("grantPermit(0, " + weekday + ")", rota.grantPermit(0, weekday), weekday + 1);
            Check.same("assign(0, 3, " + weekday + ")", rota.assign(0, 3, weekday), weekday + 1);
            Check.same("pitchOf(0, " + weekday + ")", rota.pitchOf(0, weekday), 3);
        }
        for (int weekday : new int[] {-1, 7}) {
            Check.fails("grantPermit(0, " + weekday + ")", ARGUMENT, () -> rota.grantPermit(0, weekday));
            Check.fails("assign(0, 4, " + weekday + ")", ARGUMENT, () -> rota.assign(0, 4, weekday));
            Check.fails("pitchOf(0, " + weekday + ")", ARGUMENT, () -> rota.pitchOf(0, weekday));
        }
        Check.same("assignments()", rota.assignments(), 7);
    }

    private static void oneTruckAPitch() {
        FoodTruckRota rota = Rotas.trucks(2);
        Rotas.permitAll(rota, 0);
        Rotas.permitAll(rota, 1);
        rota.assign(0, 4, 6);
        Check.fails("assign(1, 4, 6)", STATE, () -> rota.assign(1, 4, 6));
        Check.same("truckAt(4, 6)", rota.truckAt(4, 6), 0);
        Check.same("assign(1, 3, 6)", rota.assign(1, 3, 6), 1);
        Check.same("assign(1, 4, 5)", rota.assign(1, 4, 5), 2);
        rota.release(4, 6);
        rota.release(3, 6);
        Check.same("assign(1, 4, 6)", rota.assign(1, 4, 6), 2);
        Check.same("truckAt(4, 6)", rota.truckAt(4, 6), 1);
    }

    private static void onePitchATruck() {
        FoodTruckRota rota = Rotas.trucks(1);
        Rotas.permitAll(rota, 0);
        rota.assign(0, 2, 3);
        for (int pitch = 0; pitch < 5; pitch++) {
            int tried = pitch;
            Check.fails("assign(0, " + pitch + ", 3)", STATE, () -> rota.assign(0, tried, 3));
        }
        Check.same("day 3", Rotas.dayText(rota, 3), "--0--");
        Check.same("assign(0, 2, 2)", rota.assign(0, 2, 2), 2);
        Check.same("assign(0, 0, 4)", rota.assign(0, 0, 4), 3);
        rota.release(2, 3);
        Check.same("assign(0, 4, 3)", rota.assign(0, 4, 3), 3);
        Check.same("day 3", Rotas.dayText(rota, 3), "----0");
    }

    private static void fullRota() {
        FoodTruckRota rota = Rotas.trucks(6);
        for (int truck = 0; truck < 6; truck++) {
            Rotas.permitAll(rota, truck);
        }
        for (int weekday = 0; weekday < 7; weekday++) {
            for (int pitch = 0; pitch < 5; pitch++) {
                Check.same("assign", rota.assign(pitch, pitch, weekday), weekday + 1);
            }
        }
        Check.same("assignments()", rota.assignments(), 35);
        Check.same("assignmentsByTrucks()", rota.assignmentsByTrucks(), 35);
        for (int weekday = 0; weekday < 7; weekday++) {
            for (int pitch = 0; pitch < 5; pitch++) {
                int onPitch = pitch;
                int onDay = weekday;
                Check.fails("assign(5, " + pitch + ", " + weekday + ")", STATE, () -> rota.assign(5, onPitch, onDay));
            }
        }
        Check.same("day 6", Rotas.dayText(rota, 6), "01234");
        Check.same("isConsistent()", rota.isConsistent(), true);
    }

    private static void firstPermits() {
        FoodTruckRota rota = Rotas.trucks(6);
        for (int truck = 0; truck < 6; truck++) {
            for (int weekday = 0; weekday < 7; weekday++) {
                Check.same("hasPermit(" + truck + ", " + weekday + ")", rota.hasPermit(truck, weekday), false);
            }
        }
        Check.same("grantPermit(5, 6)", rota.grantPermit(5, 6), 1);
        Check.same("hasPermit(5, 6)", rota.hasPermit(5, 6), true);
        Check.same("hasPermit(5, 5)", rota.hasPermit(5, 5), false);
        Check.same("hasPermit(4, 6)", rota.hasPermit(4, 6), false);
    }

    private static void onlyWithPermit() {
        FoodTruckRota rota = Rotas.trucks(2);
        Check.fails("assign(0, 0, 0)", UNSUPPORTED, () -> rota.assign(0, 0, 0));
        rota.grantPermit(0, 1);
        rota.grantPermit(1, 0);
        Check.fails("assign(0, 0, 0)", UNSUPPORTED, () -> rota.assign(0, 0, 0));
        Check.same("assign(0, 0, 1)", rota.assign(0, 0, 1), 1);
        rota.grantPermit(0, 0);
        Check.same("assign(0, 0, 0)", rota.assign(0, 0, 0), 2);
    }

    private static void revokedEnds() {
        FoodTruckRota rota = Rotas.trucks(2);
        Rotas.permitAndAssign(rota, 0, 0, 4);
        Rotas.permitAndAssign(rota, 0, 0, 5);
        Rotas.permitAndAssign(rota, 0, 0, 6);
        Rotas.permitAndAssign(rota, 1, 1, 5);
        Check.same("revokePermit(0, 5)", rota.revokePermit(0, 5), true);
        Check.same("day 4", Rotas.dayText(rota, 4), "0----");
        Check.same("day 5", Rotas.dayText(rota, 5), "-1---");
        Check.same("day 6", Rotas.dayText(rota, 6), "0----");
        Check.same("assignments()", rota.assignments(), 3);
        rota.release(0, 6);
        Check.same("revokePermit(0, 6), not assigned", rota.revokePermit(0, 6), false);
        rota.grantPermit(0, 5);
        Check.same("the assignment does not come back", Rotas.dayText(rota, 5), "-1---");
    }

    private static void weekWrapsAround() {
        FoodTruckRota rota = Rotas.trucks(3);
        Rotas.permitAndAssign(rota, 0, 0, 0);
        Rotas.permitAndAssign(rota, 1, 1, 6);
        Rotas.permitAndAssign(rota, 2, 2, 1);
        String open = "";
        for (int day = 0; day < 15; day++) {
            Check.same("day()", rota.day(), day);
            open += rota.isOpen(0) ? '0' : rota.isOpen(1) ? '1' : rota.isOpen(2) ? '2' : '-';
            rota.advance(60);
        }
        Check.same("who is open on days 0 to 14", open, "02----102----10");
    }

    private static void openToday() {
        FoodTruckRota rota = Rotas.trucks(2);
        rota.grantPermit(0, 0);
        Check.same("isOpen(0) with a permit alone", rota.isOpen(0), false);
        rota.assign(0, 4, 0);
        Check.same("isOpen(0) once it is assigned", rota.isOpen(0), true);
        Rotas.permitAndAssign(rota, 1, 4, 1);
        Check.same("isOpen(1), assigned tomorrow", rota.isOpen(1), false);
        rota.advance(59);
        Check.same("isOpen(0) in the last minute", rota.isOpen(0), true);
        rota.advance(1);
        Check.same("isOpen(0) on the next day", rota.isOpen(0), false);
        Check.same("isOpen(1) on the next day", rota.isOpen(1), true);
        rota.release(4, 1);
        Check.same("isOpen(1) after release", rota.isOpen(1), false);
    }

    private static void weatherLimits() {
        FoodTruckRota rota = new FoodTruckRota();
        Check.same("weather()", rota.weather(), 1);
        rota.advance(1);
        Check.same("arrivedTotal() in weather 1", rota.arrivedTotal(), 1);
        Check.fails("setWeather(-1)", ARGUMENT, () -> rota.setWeather(-1));
        Check.fails("setWeather(4)", ARGUMENT, () -> rota.setWeather(4));
        Check.same("setWeather(0)", rota.setWeather(0), 1);
        rota.advance(60);
        Check.same("arrivedTotal() in weather 0", rota.arrivedTotal(), 1);
        Check.same("setWeather(3)", rota.setWeather(3), 0);
        rota.advance(1);
        Check.same("arrivedTotal() in weather 3", rota.arrivedTotal(), 4);
        rota.advance(60);
        Check.same("weather() on the next day", rota.weather(), 3);
    }

    private static void sixtyMinutes() {
        FoodTruckRota rota = new FoodTruckRota();
        rota.advance(59);
        Check.same("day() and minute()", rota.day() + " " + rota.minute(), "0 59");
        rota.advance(1);
        Check.same("day() and minute()", rota.day() + " " + rota.minute(), "1 0");
        rota.advance(60);
        Check.same("day() and minute()", rota.day() + " " + rota.minute(), "2 0");
        Check.same("arrivedTotal()", rota.arrivedTotal(), 120);
    }

    private static void minuteStartsAgain() {
        FoodTruckRota rota = new FoodTruckRota();
        Check.same("minute()", rota.minute(), 0);
        for (int minute = 1; minute <= 130; minute++) {
            rota.advance(1);
            Check.same("minute() after " + minute, rota.minute(), minute % 60);
        }
        rota.advance(50);
        Check.same("minute() after 180", rota.minute(), 0);
        rota.advance(31);
        rota.advance(31);
        Check.same("minute() after 242", rota.minute(), 2);
    }
}
