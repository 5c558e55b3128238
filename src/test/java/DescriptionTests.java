import java.util.NoSuchElementException;
import java.util.function.Consumer;

/** What a method is said to do, and that it does this and nothing beside it. */
final class DescriptionTests {
    private static final Class<NoSuchElementException> ELEMENT = NoSuchElementException.class;

    private DescriptionTests() {
    }

    static void run() {
        runChanges();
        runTrucks();
        runRota();
        runSquare();
    }

    private static void runChanges() {
        Sentences.test("Promise 3", "Adds portions of a dish to the stock of a truck.", DescriptionTests::addStock);
        Sentences.test("Promise 4", "Sets the price of a dish.", DescriptionTests::setPrice);
        Sentences.test("Promise 5", "Grants a permit.", DescriptionTests::grantPermit);
        Sentences.test("Promise 6", "Revokes a permit.", DescriptionTests::revokePermit);
        Sentences.test("Promise 7", "Assigns a truck to a pitch on a day of the week.", DescriptionTests::assign);
        Sentences.test("Promise 8", "Ends the assignment of a pitch on a day of the week.", DescriptionTests::release);
        Sentences.test("Promise 9", "Sets the weather.", DescriptionTests::setWeather);
        Sentences.test("Promise 10", "Lets minutes pass.", DescriptionTests::advance);
    }

    private static void runTrucks() {
        Sentences.test("Promise 12", "Returns the stock of a dish of a truck.", DescriptionTests::stock);
        Sentences.test("Promise 13", "Returns the coins that a truck has earned.", DescriptionTests::coins);
        Sentences.test("Promise 14", "Returns the price of a dish.", DescriptionTests::price);
        Sentences.test("Promise 24", "Returns the dish that a customer in the queue of a truck wants.",
                DescriptionTests::wantedDish);
        Sentences.test("Promise 25", "Returns the number of minutes that the preparation of a truck still takes.",
                DescriptionTests::minutesLeft);
    }

    private static void runRota() {
        Sentences.test("Promise 15", "Returns whether a truck has a permit for a day of the week.",
                DescriptionTests::hasPermit);
        Sentences.test("Promise 16", "Returns the truck that is assigned to a pitch on a day of the week.",
                DescriptionTests::truckAt);
        Sentences.test("Promise 17", "Returns the pitch to which a truck is assigned on a day of the week.",
                DescriptionTests::pitchOf);
        Sentences.test("Promise 18", "Returns whether a truck is open.", DescriptionTests::isOpen);
    }

    private static void runSquare() {
        Sentences.test("Promise 27", "Returns the number of customers.", DescriptionTests::servedWithin);
        Sentences.test("Promise 29", "Returns the day counter.", DescriptionTests::day);
        Sentences.test("Promise 30", "Returns the minute counter.", DescriptionTests::minute);
        Sentences.test("Promise 31", "Returns the weather.", DescriptionTests::weather);
        Sentences.test("Promise 39", "both ways to count assignments agree, arrived customers are those who are served,"
                + " disappointed, lost or in queues, every assigned truck has a permit, and servedTotal is the sum of the"
                + " sold portions of all dishes", DescriptionTests::consistency);
        Sentences.test("Promise 41", "Returns the length of the output text.", DescriptionTests::renderedLength);
        Sentences.test("Promise 43", "Appends a character to the script buffer.", DescriptionTests::type);
        Sentences.test("Promise 44", "Runs the script in the script buffer.", DescriptionTests::runScript);
    }

    /** The call changes this part of what can be asked for into that, and nothing else. */
    private static void changesOnly(FoodTruckRota rota, Consumer<FoodTruckRota> call, String part, String into) {
        String before = Rotas.all(rota);
        call.accept(rota);
        Check.same("parts \"" + part + "\"", before.split(java.util.regex.Pattern.quote(part), -1).length - 1, 1);
        Check.same("all", Rotas.all(rota), before.replace(part, into));
    }

    private static void addStock() {
        changesOnly(Rotas.busy(), rota -> rota.addStock(0, 1, 3), " 8 0 0 50 ", " 8 3 0 50 ");
        changesOnly(Rotas.busy(), rota -> rota.addStock(2, 3, 50), " 0 0 0 0 ", " 0 0 0 50 ");
        FoodTruckRota rota = Rotas.trucks(6);
        for (int truck = 0; truck < 6; truck++) {
            for (int dish = 0; dish < 4; dish++) {
                rota.addStock(truck, dish, 1 + truck * 4 + dish);
            }
        }
        for (int truck = 0; truck < 6; truck++) {
            for (int dish = 0; dish < 4; dish++) {
                Check.same("stock(" + truck + ", " + dish + ")", rota.stock(truck, dish), 1 + truck * 4 + dish);
            }
        }
    }

    private static void setPrice() {
        changesOnly(Rotas.busy(), rota -> rota.setPrice(3, 20), "11x0", "20x0");
        FoodTruckRota rota = new FoodTruckRota();
        for (int dish = 0; dish < 4; dish++) {
            rota.setPrice(dish, 20 - dish);
        }
        for (int dish = 0; dish < 4; dish++) {
            Check.same("price(" + dish + ")", rota.price(dish), 20 - dish);
        }
    }

    private static void grantPermit() {
        changesOnly(Rotas.busy(), rota -> rota.grantPermit(2, 3), "-------", "---p---");
        changesOnly(Rotas.busy(), rota -> rota.grantPermit(1, 5), "p-----p", "p----pp");
    }

    private static void revokePermit() {
        FoodTruckRota rota = Rotas.busy();
        rota.grantPermit(2, 0);
        rota.grantPermit(2, 6);
        rota.grantPermit(2, 3);
        changesOnly(rota, same -> same.revokePermit(2, 3), "p--p--p", "p-----p");
    }

    private static void assign() {
        FoodTruckRota rota = Rotas.busy();
        rota.grantPermit(2, 5);
        changesOnly(rota, same -> same.assign(2, 1, 5), "----- ----1", "-2--- ----1");
        Check.same("truckAt(1, 5)", rota.truckAt(1, 5), 2);
        Check.same("pitchOf(2, 5)", rota.pitchOf(2, 5), 1);
        FoodTruckRota today = Rotas.busy();
        today.grantPermit(2, 0);
        today.assign(2, 4, 0);
        Check.same("truckAt(4, 0)", today.truckAt(4, 0), 2);
        Check.same("isOpen(2)", today.isOpen(2), true);
        Check.same("queueLength(2)", today.queueLength(2), 0);
    }

    private static void release() {
        changesOnly(Rotas.busy(), rota -> rota.release(4, 6), "----1", "-----");
        FoodTruckRota rota = Rotas.busy();
        rota.release(3, 0);
        Check.same("day 0", Rotas.dayText(rota, 0), "0----");
        Check.same("day 6", Rotas.dayText(rota, 6), "----1");
        Check.same("hasPermit(1, 0)", rota.hasPermit(1, 0), true);
        Check.same("the pitch can be assigned again", rota.assign(1, 3, 0), 2);
    }

    private static void setWeather() {
        changesOnly(Rotas.busy(), rota -> rota.setWeather(1), "0/4/3", "0/4/1");
        FoodTruckRota rota = new FoodTruckRota();
        for (int customers = 3; customers >= 0; customers--) {
            rota.setWeather(customers);
            Check.same("weather()", rota.weather(), customers);
            int arrived = rota.arrivedTotal();
            rota.advance(10);
            Check.same("customers in 10 minutes", rota.arrivedTotal() - arrived, 10 * customers);
        }
    }

    private static void advance() {
        for (int minutes = 1; minutes <= 60; minutes++) {
            FoodTruckRota atOnce = Rotas.busy();
            FoodTruckRota oneByOne = Rotas.busy();
            int served = 0;
            for (int passed = 0; passed < minutes; passed++) {
                served += oneByOne.advance(1);
            }
            Check.same("advance(" + minutes + ")", atOnce.advance(minutes), served);
            Check.same("all after " + minutes, Rotas.all(atOnce), Rotas.all(oneByOne));
        }
    }

    private static void stock() {
        FoodTruckRota rota = Rotas.busy();
        Check.same("stock(0, 0), 1 of 9 sold", rota.stock(0, 0) + " " + rota.soldPortions(0), "8 1");
        Check.same("stock(0, 3)", rota.stock(0, 3), 50);
        Check.same("stock(1, 1)", rota.stock(1, 1), 49);
        Check.same("stock(2, 3)", rota.stock(2, 3), 0);
    }

    private static void coins() {
        FoodTruckRota rota = Rotas.stocked(2, 9);
        rota.setPrice(0, 1);
        rota.setPrice(1, 20);
        rota.setWeather(2);
        rota.advance(2);
        Check.same("coins(0) for dish 0", rota.coins(0), 1);
        Check.same("coins(1) for dish 1", rota.coins(1), 20);
        rota.setPrice(0, 9);
        Check.same("coins(0) after another price", rota.coins(0), 1);
        rota.undo();
        rota.undo();
        Check.same("coins(1) after undo", rota.coins(1), 0);
    }

    private static void price() {
        FoodTruckRota rota = new FoodTruckRota();
        rota.setPrice(2, 20);
        int[] due = {5, 5, 20, 5};
        for (int dish = 0; dish < 4; dish++) {
            Check.same("price(" + dish + ")", rota.price(dish), due[dish]);
        }
        rota.undo();
        Check.same("price(2) after undo", rota.price(2), 5);
    }

    private static void wantedDish() {
        FoodTruckRota rota = Rotas.open(2);
        rota.addStock(0, 0, 1);
        rota.setWeather(3);
        rota.advance(1);
        Check.same("customer 0 is served, customer 2 is next", Rotas.queue(rota, 0), "2");
        Check.same("customer 1 left disappointed", Rotas.queue(rota, 1), "");
        rota.addStock(0, 2, 1);
        rota.addStock(1, 3, 1);
        rota.advance(1);
        Check.same("customers 2 and 4", Rotas.queue(rota, 0), "20");
        Check.same("customers 3 and 5", Rotas.queue(rota, 1), "31");
    }

    private static void minutesLeft() {
        FoodTruckRota rota = Rotas.queueing(3);
        for (int minutes = 3; minutes >= 0; minutes--) {
            Check.same("minutesLeft(0)", rota.minutesLeft(0), minutes);
            rota.advance(1);
        }
    }

    private static void hasPermit() {
        for (int truck = 0; truck < 3; truck++) {
            for (int weekday = 0; weekday < 7; weekday++) {
                FoodTruckRota rota = Rotas.trucks(3);
                rota.grantPermit(truck, weekday);
                Check.same("hasPermit", permits(rota, 3), "0".repeat(truck * 7 + weekday) + "1"
                        + "0".repeat(20 - truck * 7 - weekday));
                rota.revokePermit(truck, weekday);
                Check.same("hasPermit", permits(rota, 3), "0".repeat(21));
            }
        }
    }

    private static String permits(FoodTruckRota rota, int trucks) {
        StringBuilder text = new StringBuilder();
        for (int truck = 0; truck < trucks; truck++) {
            for (int weekday = 0; weekday < 7; weekday++) {
                text.append(rota.hasPermit(truck, weekday) ? '1' : '0');
            }
        }
        return text.toString();
    }

    /** Trucks 1 to 5 on each day of the week, each day one pitch further; truck 0 nowhere. */
    private static FoodTruckRota fullWeek() {
        FoodTruckRota rota = Rotas.trucks(6);
        for (int weekday = 0; weekday < 7; weekday++) {
            for (int truck = 1; truck < 6; truck++) {
                Rotas.permitAndAssign(rota, truck, (truck + weekday) % 5, weekday);
            }
        }
        return rota;
    }

    private static void truckAt() {
        FoodTruckRota rota = fullWeek();
        for (int weekday = 0; weekday < 7; weekday++) {
            for (int truck = 1; truck < 6; truck++) {
                Check.same("truckAt", rota.truckAt((truck + weekday) % 5, weekday), truck);
            }
        }
        rota.release(2, 4);
        Check.fails("a released pitch", ELEMENT, () -> rota.truckAt(2, 4));
        Check.same("the pitch on the next day", rota.truckAt(2, 5), 2);
    }

    private static void pitchOf() {
        FoodTruckRota rota = fullWeek();
        for (int weekday = 0; weekday < 7; weekday++) {
            for (int truck = 1; truck < 6; truck++) {
                Check.same("pitchOf", rota.pitchOf(truck, weekday), (truck + weekday) % 5);
            }
        }
        rota.revokePermit(3, 4);
        Check.fails("a revoked permit", ELEMENT, () -> rota.pitchOf(3, 4));
        Check.same("the truck on the next day", rota.pitchOf(3, 5), 3);
    }

    private static void isOpen() {
        FoodTruckRota rota = Rotas.trucks(1);
        Check.same("without a permit", rota.isOpen(0), false);
        rota.grantPermit(0, 0);
        Check.same("with a permit alone", rota.isOpen(0), false);
        rota.assign(0, 4, 0);
        Check.same("assigned today", rota.isOpen(0), true);
        rota.release(4, 0);
        Check.same("released", rota.isOpen(0), false);
        rota.assign(0, 0, 0);
        rota.revokePermit(0, 0);
        Check.same("its permit revoked", rota.isOpen(0), false);
        rota.undo();
        Check.same("after undo", rota.isOpen(0), true);
    }

    private static void servedWithin() {
        for (int minutes = 1; minutes <= 60; minutes++) {
            FoodTruckRota rota = Rotas.stocked(3, 5);
            rota.setWeather(2);
            rota.advance(minutes);
            int foretold = rota.servedWithin(minutes);
            Check.same("advance(" + minutes + ") after servedWithin", rota.advance(minutes), foretold);
        }
        FoodTruckRota asked = Rotas.busy();
        FoodTruckRota untouched = Rotas.busy();
        Check.same("servedWithin(60)", asked.servedWithin(60), untouched.advance(60));
        untouched.undo();
        Check.same("all after servedWithin", Rotas.all(asked), Rotas.all(untouched));
    }

    private static void day() {
        FoodTruckRota rota = new FoodTruckRota();
        for (int passed = 30; passed <= 600; passed += 30) {
            rota.advance(30);
            Check.same("day() after " + passed + " minutes", rota.day(), passed / 60);
        }
    }

    private static void minute() {
        FoodTruckRota rota = new FoodTruckRota();
        for (int passed = 1; passed <= 200; passed++) {
            rota.advance(1);
            Check.same("minute() after " + passed + " minutes", rota.minute(), passed % 60);
        }
    }

    private static void weather() {
        FoodTruckRota rota = new FoodTruckRota();
        Check.same("weather() at first", rota.weather(), 1);
        rota.setWeather(3);
        rota.advance(60);
        Check.same("weather() on the next day", rota.weather(), 3);
        rota.undo();
        rota.undo();
        Check.same("weather() after undo", rota.weather(), 1);
    }

    private static void consistency() {
        FoodTruckRota rota = fullWeek();
        for (int truck = 1; truck < 6; truck++) {
            rota.addStock(truck, truck % 4, 50);
        }
        rota.setWeather(3);
        for (int step = 0; step < 30; step++) {
            rota.advance(17);
            int inQueues = 0;
            for (int truck = 0; truck < 6; truck++) {
                inQueues += rota.queueLength(truck);
            }
            int sold = rota.soldPortions(0) + rota.soldPortions(1) + rota.soldPortions(2) + rota.soldPortions(3);
            Check.same("assignments()", rota.assignments(), rota.assignmentsByTrucks());
            Check.same("arrivedTotal()", rota.arrivedTotal(),
                    rota.servedTotal() + rota.disappointedTotal() + rota.lostTotal() + inQueues);
            Check.same("servedTotal()", rota.servedTotal(), sold);
            Check.same("isConsistent()", rota.isConsistent(), true);
        }
    }

    private static void renderedLength() {
        FoodTruckRota rota = Rotas.trucks(1);
        Check.same("t0:0,0,0,0$0", rota.renderTruck(0), 12);
        rota.addStock(0, 3, 10);
        Check.same("t0:0,0,0,10$0", rota.renderTruck(0), 13);
        Rotas.permitAndAssign(rota, 0, 2, 0);
        Check.same("t0:0,0,0,10$0@2", rota.renderTruck(0), 15);
        for (int customers = 3; customers <= 9; customers++) {
            Check.same("t0:0,0,0,9$0@0 and the queue", Rotas.queueing(customers).renderTruck(0), 14 + customers);
        }
    }

    private static void type() {
        FoodTruckRota rota = new FoodTruckRota();
        String script = "truck;price 0 9;wait";
        for (int index = 0; index < script.length(); index++) {
            Check.same("type", rota.type(script.charAt(index)), index + 1);
        }
        Check.same("nothing has been run", Rotas.all(rota), Rotas.all(new FoodTruckRota()));
        Check.same("in the order in which they were typed", rota.runScript(), 3);
        Check.same("price(0)", rota.price(0), 9);
    }

    private static void runScript() {
        FoodTruckRota rota = new FoodTruckRota();
        Rotas.run(rota, "truck;stock 0 0 12;price 0 20;permit 0 0;permit 0 6");
        Rotas.run(rota, "weather 2;assign 0 4 0;wait 3;free 4 0;assign 0 1 6");
        Rotas.run(rota, "wait;revoke 0 6");
        FoodTruckRota called = Rotas.trucks(1);
        called.addStock(0, 0, 12);
        called.setPrice(0, 20);
        called.grantPermit(0, 0);
        called.grantPermit(0, 6);
        called.setWeather(2);
        called.assign(0, 4, 0);
        called.advance(3);
        called.release(4, 0);
        called.assign(0, 1, 6);
        called.advance(1);
        called.revokePermit(0, 6);
        Check.same("as the methods would", Rotas.all(rota), Rotas.all(called));
        Check.same("coins(0)", rota.coins(0), 20);
    }
}
