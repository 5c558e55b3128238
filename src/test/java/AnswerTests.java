import java.util.NoSuchElementException;

/** What the promises' descriptions and "Returns" rows say of the least, the most, the empty and the full. */
final class AnswerTests {
    private static final Class<IndexOutOfBoundsException> INDEX = IndexOutOfBoundsException.class;
    private static final Class<IllegalArgumentException> ARGUMENT = IllegalArgumentException.class;
    private static final Class<IllegalStateException> STATE = IllegalStateException.class;
    private static final Class<NoSuchElementException> ELEMENT = NoSuchElementException.class;

    private AnswerTests() {
    }

    static void run() {
        runChanges();
        runRotaQuestions();
        runQueueQuestions();
        runTotals();
        runTexts();
        runUndo();
    }

    private static void runChanges() {
        Sentences.test("Promise 1", "Creates a square without trucks on day 0.", AnswerTests::newObject);
        Sentences.test("Promise 2", "Adds a truck without stock and permits.", AnswerTests::newTruck);
        Sentences.test("Promise 2", "Returns the index of the truck.", AnswerTests::newIndices);
        Sentences.test("Promise 3", "Returns the stock of the dish after the call.", AnswerTests::stockAfterwards);
        Sentences.test("Promise 4", "Returns the previous price.", AnswerTests::previousPrice);
        Sentences.test("Promise 5", "Returns the number of days of the week for which the truck has a permit after the call.",
                AnswerTests::numberOfPermits);
        Sentences.test("Promise 6", "Returns true if an assignment ends by that.", AnswerTests::assignmentEnds);
        Sentences.test("Promise 7", "Returns the number of assignments of the truck in the week after the call.",
                AnswerTests::numberOfAssignments);
        Sentences.test("Promise 8", "Returns the index of the truck.", AnswerTests::releasedTruck);
        Sentences.test("Promise 9", "Returns the previous number.", AnswerTests::previousWeather);
        Sentences.test("Promise 10", "Returns the number of customers who are served in these minutes.",
                AnswerTests::servedInTheseMinutes);
    }

    private static void runRotaQuestions() {
        Sentences.test("Promise 11", "Returns the number of trucks.", AnswerTests::truckCount);
        Sentences.test("Promise 18", "Returns true if it is open.", AnswerTests::isOpen);
        Sentences.test("Promise 19", "Returns the number of assignments of the whole week, counted pitch by pitch.",
                () -> countsAssignments(false));
        Sentences.test("Promise 20", "Returns the same number as assignments, counted truck by truck.",
                () -> countsAssignments(true));
        Sentences.test("Promise 21", "the lowest day for which it has a permit, on which it is not assigned, and on which at"
                + " least one pitch is not assigned", AnswerTests::firstFreeDay);
        Sentences.test("Promise 22", "Returns the lowest pitch that is not assigned on a day of the week.",
                AnswerTests::firstFreePitch);
    }

    private static void runQueueQuestions() {
        Sentences.test("Promise 23", "including the one whose dish is being prepared", AnswerTests::queueLength);
        Sentences.test("Promise 23", "0 if the truck is not open", AnswerTests::queueLengthOfClosed);
        Sentences.test("Promise 24", "the position in the queue, 0 for the first one", AnswerTests::wantedDish);
        Sentences.test("Promise 25", "0 if it is not preparing a dish", AnswerTests::minutesLeft);
        Sentences.test("Promise 26", "the sum of the times of the dishes, where the minutes already used for the first dish do"
                + " not count", AnswerTests::queueTime);
        Sentences.test("Promise 27", "Predicts how many customers are served in the next minutes.", AnswerTests::servedWithin);
        Sentences.test("Promise 28", "sorted by coins in descending order", AnswerTests::rankedByCoins);
        Sentences.test("Promise 28", "then by the sum of their stocks in descending order", AnswerTests::rankedByStocks);
        Sentences.test("Promise 28", "then by index in ascending order", AnswerTests::rankedByIndex);
    }

    private static void runTotals() {
        Sentences.test("Promise 29", "Returns the number of days that have ended.", AnswerTests::daysEnded);
        Sentences.test("Promise 30", "Returns the minute, 0 to 59.", AnswerTests::minutes);
        Sentences.test("Promise 32", "Returns how many customers have arrived so far, including lost ones.",
                AnswerTests::arrivedTotal);
        Sentences.test("Promise 33", "Returns how many customers have been served so far.", AnswerTests::servedTotal);
        Sentences.test("Promise 34", "Returns how many customers have left disappointed so far.",
                AnswerTests::disappointedTotal);
        Sentences.test("Promise 35", "Returns how many customers have been lost so far.", AnswerTests::lostTotal);
        Sentences.test("Promise 36", "Returns how many portions of a dish have been sold so far.", AnswerTests::soldPortions);
        Sentences.test("Promise 37", "the sum divided by the number, both converted to double", AnswerTests::meanCoins);
        Sentences.test("Promise 38", "the quotient of servedTotal and arrivedTotal, both converted to float",
                AnswerTests::servedShare);
        Sentences.test("Promise 39", "Returns true if all of this holds.", AnswerTests::isConsistent);
    }

    private static void runTexts() {
        Sentences.test("Promise 40", "for each pitch the index of its truck, or \"-\" if it is not assigned",
                AnswerTests::renderDay);
        Sentences.test("Promise 40", "Returns the length of the output text, which is 5.", AnswerTests::renderDayLength);
        Sentences.test("Promise 41", "and, if it is open, \"@\", its pitch, and a \"q\" for each customer in its queue",
                AnswerTests::renderQueue);
        Sentences.test("Promise 41", "its stocks separated by \",\", \"$\" and its coins", AnswerTests::renderStocks);
        Sentences.test("Promise 42", "the output text, which is empty initially", AnswerTests::outputIsEmpty);
        Sentences.test("Promise 42", "Returns a character of the output text", AnswerTests::outputIsReplaced);
        Sentences.test("Promise 43", "Returns the length of the script buffer.", AnswerTests::typedLength);
        Sentences.test("Promise 44", "The buffer is empty afterwards, also if an exception is thrown.",
                AnswerTests::bufferIsEmptied);
        Sentences.test("Promise 44", "Returns the number of commands.", AnswerTests::numberOfCommands);
        Sentences.test("Promise 45", "Returns the error position of the latest script that did not have the required form.",
                AnswerTests::latestErrorPosition);
        Sentences.test("Promise 46", "the latest script with a failed command", AnswerTests::latestFailedCommand);
        Sentences.test("Promise 46", "Returns the index of the command, counted from 0.", AnswerTests::failedFromZero);
    }

    private static void runUndo() {
        Sentences.test("Promise 47", "Undoes the latest change that has not been undone.", AnswerTests::latestNotUndone);
        Sentences.test("Promise 47", "Returns the number of changes that can still be undone.", AnswerTests::leftToUndo);
        Sentences.test("Promise 48", "Takes a snapshot, which replaces an earlier one.", AnswerTests::snapshotIsReplaced);
        Sentences.test("Promise 48", "Returns the number of trucks.", AnswerTests::saveCounts);
        Sentences.test("Promise 49", "Restores the snapshot, which is kept.", AnswerTests::snapshotIsKept);
        Sentences.test("Promise 49", "Afterwards there is nothing to undo.", AnswerTests::nothingToUndo);
        Sentences.test("Promise 49", "Returns the number of trucks.", AnswerTests::restoreCounts);
    }

    private static void newObject() {
        FoodTruckRota rota = new FoodTruckRota();
        Check.same("truckCount()", rota.truckCount(), 0);
        Check.same("day()", rota.day(), 0);
        Check.same("minute()", rota.minute(), 0);
        Check.same("all", Rotas.all(rota), "0/0/1 0=0+0+0 5x0 5x0 5x0 5x0 ----- ----- ----- ----- ----- ----- -----");
    }

    private static void newTruck() {
        FoodTruckRota rota = Rotas.busy();
        Rotas.add(rota, 3);
        for (int truck = 3; truck < 6; truck++) {
            Check.same("renderTruck", Rotas.truckText(rota, truck), "t" + truck + ":0,0,0,0$0");
            Check.same("queueLength", rota.queueLength(truck), 0);
            for (int weekday = 0; weekday < 7; weekday++) {
                Check.same("hasPermit(" + truck + ", " + weekday + ")", rota.hasPermit(truck, weekday), false);
            }
        }
        FoodTruckRota again = Rotas.open(1);
        again.addStock(0, 0, 9);
        for (int undone = 0; undone < 4; undone++) {
            again.undo();
        }
        again.addTruck();
        Check.same("a truck where an undone one was", Rotas.truckText(again, 0), "t0:0,0,0,0$0");
        Check.same("hasPermit(0, 0)", again.hasPermit(0, 0), false);
    }

    private static void newIndices() {
        FoodTruckRota rota = new FoodTruckRota();
        for (int truck = 0; truck < 6; truck++) {
            Check.same("addTruck()", rota.addTruck(), truck);
        }
        rota.undo();
        Check.same("addTruck() after undo", rota.addTruck(), 5);
    }

    private static void stockAfterwards() {
        FoodTruckRota rota = Rotas.trucks(1);
        Check.same("the least", rota.addStock(0, 3, 1), 1);
        Check.same("addStock", rota.addStock(0, 3, 50), 51);
        Check.same("the most", rota.addStock(0, 3, 48), 99);
        Check.same("another dish", rota.addStock(0, 0, 50), 50);
    }

    private static void previousPrice() {
        FoodTruckRota rota = new FoodTruckRota();
        Check.same("the first", rota.setPrice(3, 20), 5);
        Check.same("the most", rota.setPrice(3, 1), 20);
        Check.same("the least", rota.setPrice(3, 1), 1);
        Check.fails("setPrice", ARGUMENT, () -> rota.setPrice(3, 0));
        Check.same("after a refused call", rota.setPrice(3, 7), 1);
        rota.undo();
        Check.same("after an undo", rota.setPrice(3, 7), 1);
    }

    private static void numberOfPermits() {
        FoodTruckRota rota = Rotas.trucks(2);
        int[] weekdays = {6, 0, 3, 1, 5, 2, 4};
        for (int granted = 0; granted < 7; granted++) {
            Check.same("grantPermit(1, x)", rota.grantPermit(1, weekdays[granted]), granted + 1);
        }
        Check.same("another truck", rota.grantPermit(0, 6), 1);
        rota.revokePermit(1, 6);
        rota.revokePermit(1, 0);
        Check.same("after two revoked ones", rota.grantPermit(1, 0), 6);
    }

    private static void assignmentEnds() {
        FoodTruckRota rota = Rotas.trucks(2);
        Rotas.permitAll(rota, 0);
        rota.assign(0, 0, 0);
        rota.assign(0, 4, 6);
        Check.same("no assignment on the day", rota.revokePermit(0, 1), false);
        Check.same("the first pitch and day", rota.revokePermit(0, 0), true);
        Check.same("the last pitch and day", rota.revokePermit(0, 6), true);
        Rotas.permitAndAssign(rota, 1, 2, 3);
        Check.same("another truck's assignment on the day", rota.revokePermit(0, 3), false);
        Check.same("truckAt(2, 3)", rota.truckAt(2, 3), 1);
        rota.release(2, 3);
        Check.same("an assignment that ended before", rota.revokePermit(1, 3), false);
    }

    private static void numberOfAssignments() {
        FoodTruckRota rota = Rotas.trucks(2);
        Rotas.permitAll(rota, 0);
        Rotas.permitAndAssign(rota, 1, 4, 0);
        int[] weekdays = {6, 0, 3, 1, 5, 2, 4};
        for (int assigned = 0; assigned < 7; assigned++) {
            Check.same("assign(0, x, y)", rota.assign(0, assigned % 4, weekdays[assigned]), assigned + 1);
        }
        rota.release(0, 6);
        Check.same("after release", rota.assign(0, 4, 6), 7);
    }

    private static void releasedTruck() {
        FoodTruckRota rota = Rotas.trucks(6);
        Rotas.permitAndAssign(rota, 5, 0, 6);
        Rotas.permitAndAssign(rota, 0, 4, 6);
        Check.same("release(0, 6)", rota.release(0, 6), 5);
        Check.same("release(4, 6)", rota.release(4, 6), 0);
        Check.same("day 6", Rotas.dayText(rota, 6), "-----");
    }

    private static void previousWeather() {
        FoodTruckRota rota = new FoodTruckRota();
        Check.same("the first", rota.setWeather(3), 1);
        Check.same("the most", rota.setWeather(0), 3);
        Check.same("the least", rota.setWeather(0), 0);
        Check.fails("setWeather", ARGUMENT, () -> rota.setWeather(4));
        Check.same("after a refused call", rota.setWeather(2), 0);
    }

    private static void servedInTheseMinutes() {
        FoodTruckRota none = Rotas.trucks(1);
        none.addStock(0, 0, 9);
        Check.same("nobody, without open trucks", none.advance(60), 0);
        FoodTruckRota rota = Rotas.stocked(1, 9);
        Check.same("the first", rota.advance(1), 1);
        Check.same("nobody in the second minute", rota.advance(1), 0);
        Check.same("only these minutes count", rota.advance(1), 1);
        FoodTruckRota day = Rotas.open(1);
        day.addStock(0, 0, 50);
        Check.same("a whole day, each fourth customer", day.advance(60), 15);
        Check.same("servedTotal()", day.servedTotal(), 15);
        FoodTruckRota two = Rotas.stocked(1, 50);
        Rotas.permitAndAssign(two, 0, 0, 1);
        two.setWeather(0);
        two.advance(59);
        two.setWeather(1);
        Check.same("over the end of the day", two.advance(3), 2);
    }

    private static void truckCount() {
        FoodTruckRota rota = new FoodTruckRota();
        Check.same("truckCount()", rota.truckCount(), 0);
        Rotas.add(rota, 6);
        Check.same("truckCount()", rota.truckCount(), 6);
        Check.fails("addTruck()", STATE, rota::addTruck);
        Check.same("truckCount()", rota.truckCount(), 6);
        rota.undo();
        Check.same("truckCount()", rota.truckCount(), 5);
    }

    private static void isOpen() {
        FoodTruckRota rota = Rotas.trucks(6);
        Rotas.permitAndAssign(rota, 5, 4, 0);
        Rotas.permitAndAssign(rota, 0, 0, 6);
        Check.same("isOpen(5)", rota.isOpen(5), true);
        Check.same("isOpen(0)", rota.isOpen(0), false);
        for (int day = 0; day < 6; day++) {
            rota.advance(60);
        }
        Check.same("isOpen(5) on day 6", rota.isOpen(5), false);
        Check.same("isOpen(0) on day 6", rota.isOpen(0), true);
        rota.advance(60);
        Check.same("isOpen(5) on day 7", rota.isOpen(5), true);
    }

    private static int count(FoodTruckRota rota, boolean byTrucks) {
        return byTrucks ? rota.assignmentsByTrucks() : rota.assignments();
    }

    private static void countsAssignments(boolean byTrucks) {
        FoodTruckRota rota = Rotas.trucks(6);
        Check.same("none", count(rota, byTrucks), 0);
        for (int truck = 1; truck < 6; truck++) {
            Rotas.permitAll(rota, truck);
            Check.same("permits alone", count(rota, byTrucks), (truck - 1) * 7);
            for (int weekday = 0; weekday < 7; weekday++) {
                rota.assign(truck, (truck + weekday) % 5, weekday);
            }
        }
        Check.same("all", count(rota, byTrucks), 35);
        rota.release(0, 0);
        Check.same("after release", count(rota, byTrucks), 34);
        rota.revokePermit(5, 6);
        Check.same("after revokePermit", count(rota, byTrucks), 33);
        Check.same("without trucks", count(new FoodTruckRota(), byTrucks), 0);
    }

    private static void firstFreeDay() {
        FoodTruckRota rota = Rotas.trucks(6);
        rota.grantPermit(5, 6);
        Check.same("the last day", rota.firstFreeDay(5), 6);
        rota.grantPermit(5, 0);
        Check.same("the first day", rota.firstFreeDay(5), 0);
        for (int truck = 0; truck < 4; truck++) {
            Rotas.permitAndAssign(rota, truck, truck, 0);
        }
        Check.same("one pitch is free", rota.firstFreeDay(5), 0);
        Rotas.permitAndAssign(rota, 4, 4, 0);
        Check.same("no pitch is free", rota.firstFreeDay(5), 6);
        rota.assign(5, 2, 6);
        Check.fails("it is assigned", ELEMENT, () -> rota.firstFreeDay(5));
        rota.revokePermit(4, 0);
        Check.same("a pitch is free again", rota.firstFreeDay(5), 0);
        Check.fails("without a permit now", ELEMENT, () -> rota.firstFreeDay(4));
    }

    private static void firstFreePitch() {
        FoodTruckRota rota = Rotas.trucks(5);
        Check.same("all are free", rota.firstFreePitch(6), 0);
        int[] pitches = {4, 2, 0, 1, 3};
        int[] free = {0, 0, 1, 3};
        for (int truck = 0; truck < 4; truck++) {
            Rotas.permitAndAssign(rota, truck, pitches[truck], 6);
            Check.same("firstFreePitch(6) after " + pitches[truck], rota.firstFreePitch(6), free[truck]);
        }
        Rotas.permitAndAssign(rota, 4, 3, 6);
        Check.fails("none is free", ELEMENT, () -> rota.firstFreePitch(6));
        Check.same("another day", rota.firstFreePitch(5), 0);
        rota.release(4, 6);
        Check.same("the last is free", rota.firstFreePitch(6), 4);
    }

    private static void queueLength() {
        for (int customers = 3; customers <= 9; customers++) {
            FoodTruckRota rota = Rotas.queueing(customers);
            Check.same("a dish is being prepared", rota.minutesLeft(0) > 0, true);
            Check.same("queueLength(0)", rota.queueLength(0), customers);
        }
        FoodTruckRota rota = Rotas.queueing(3);
        rota.setWeather(0);
        rota.advance(20);
        Check.same("queueLength(0) of nobody", rota.queueLength(0), 0);
        Check.same("isOpen(0)", rota.isOpen(0), true);
    }

    private static void queueLengthOfClosed() {
        FoodTruckRota never = Rotas.trucks(1);
        never.advance(5);
        Check.same("never open", never.queueLength(0), 0);
        FoodTruckRota released = Rotas.queueing(9);
        released.release(0, 0);
        Check.same("after release", released.queueLength(0), 0);
        FoodTruckRota revoked = Rotas.queueing(9);
        revoked.revokePermit(0, 0);
        Check.same("after revokePermit", revoked.queueLength(0), 0);
        FoodTruckRota night = Rotas.queueing(9);
        night.advance(56);
        Check.same("after the day", night.day() + " " + night.queueLength(0), "1 0");
    }

    private static void wantedDish() {
        FoodTruckRota rota = Rotas.queueing(9);
        int[] wanted = {3, 0, 1, 2, 3, 0, 1, 2, 3};
        for (int position = 0; position < 9; position++) {
            Check.same("wantedDish(0, " + position + ")", rota.wantedDish(0, position), wanted[position]);
        }
        Check.fails("wantedDish(0, 9)", ELEMENT, () -> rota.wantedDish(0, 9));
        rota.advance(1);
        Check.same("wantedDish(0, 0), the first is gone", rota.wantedDish(0, 0), 0);
        Check.same("wantedDish(0, 7)", rota.wantedDish(0, 7), 3);
        Check.fails("wantedDish(0, 8)", ELEMENT, () -> rota.wantedDish(0, 8));
    }

    private static void minutesLeft() {
        FoodTruckRota rota = Rotas.open(1);
        Check.same("an empty queue", rota.minutesLeft(0), 0);
        rota.addStock(0, 1, 1);
        rota.advance(1);
        Check.same("a customer left disappointed", rota.minutesLeft(0), 0);
        rota.advance(1);
        Check.same("dish 1", rota.minutesLeft(0), 1);
        rota.advance(1);
        Check.same("dish 1 is ready, dish 2 not begun", rota.minutesLeft(0), 0);
        Check.same("queueLength(0)", rota.queueLength(0), 1);
        Check.same("the most", Rotas.queueing(3).minutesLeft(0), 3);
        Check.same("a closed truck", Rotas.trucks(1).minutesLeft(0), 0);
    }

    private static void queueTime() {
        Check.same("an empty queue", Rotas.open(1).queueTime(0), 0);
        Check.same("a closed truck", Rotas.trucks(1).queueTime(0), 0);
        FoodTruckRota full = Rotas.queueing(9);
        Check.same("dishes 301230123, 3 minutes used", full.queueTime(0), 24 - 3);
        full.advance(1);
        Check.same("dishes 01230123, none begun", full.queueTime(0), 20);
        FoodTruckRota rota = Rotas.queueing(3);
        for (int used = 1; used <= 3; used++) {
            Check.same("dishes 301, minutes used " + used, rota.queueTime(0), 7 - used);
            rota.advance(1);
        }
        Check.same("dishes 01, not in stock", rota.queueTime(0), 3);
    }

    private static void servedWithin() {
        FoodTruckRota rota = Rotas.queueing(3);
        int[] served = {0, 0, 0, 1, 1};
        for (int minutes = 0; minutes < 5; minutes++) {
            Check.same("servedWithin(" + minutes + ")", rota.servedWithin(minutes), served[minutes]);
        }
        Check.same("servedWithin(60) without customers", rota.servedWithin(60), 1);
        Check.same("servedWithin(0) of nothing", new FoodTruckRota().servedWithin(0), 0);
        Check.same("servedWithin(60) of nothing", new FoodTruckRota().servedWithin(60), 0);
        FoodTruckRota day = Rotas.open(1);
        day.addStock(0, 0, 50);
        Check.same("a whole day, each fourth customer", day.servedWithin(60), 15);
        FoodTruckRota week = Rotas.stocked(1, 50);
        week.setWeather(0);
        for (int ended = 0; ended < 6; ended++) {
            week.advance(60);
        }
        week.advance(59);
        week.setWeather(1);
        Check.same("day 6 ends", week.servedWithin(1), 0);
        Check.same("day 7 begins", week.servedWithin(3), 1);
        Check.same("as advance says", week.advance(3), 1);
    }

    private static String ranking(FoodTruckRota rota) {
        StringBuilder text = new StringBuilder();
        for (int rank = 0; rank < rota.truckCount(); rank++) {
            text.append(rota.truckByCoins(rank));
        }
        return text.toString();
    }

    private static void rankedByCoins() {
        FoodTruckRota rota = Rotas.trucks(3);
        rota.addStock(0, 1, 50);
        Rotas.permitAndAssign(rota, 2, 0, 0);
        rota.addStock(2, 0, 1);
        rota.setPrice(0, 1);
        rota.advance(1);
        Check.same("one coin counts more than all stocks", ranking(rota), "201");
        FoodTruckRota more = Rotas.stocked(2, 9);
        more.setPrice(1, 6);
        more.setWeather(2);
        more.advance(2);
        Check.same("coins", more.coins(0) + " " + more.coins(1), "5 6");
        Check.same("6 coins before 5", ranking(more), "10");
    }

    private static void rankedByStocks() {
        FoodTruckRota rota = Rotas.trucks(3);
        rota.addStock(0, 0, 3);
        for (int dish = 0; dish < 4; dish++) {
            rota.addStock(2, dish, 1);
        }
        Check.same("4 before 3 before 0", ranking(rota), "201");
        rota.addStock(0, 3, 2);
        Check.same("5 before 4", ranking(rota), "021");
        FoodTruckRota coins = Rotas.stocked(2, 9);
        coins.setWeather(2);
        coins.advance(2);
        coins.addStock(1, 3, 1);
        Check.same("coins", coins.coins(0) + " " + coins.coins(1), "5 5");
        Check.same("with the same coins", ranking(coins), "10");
    }

    private static void rankedByIndex() {
        FoodTruckRota rota = Rotas.trucks(6);
        Check.same("all alike", ranking(rota), "012345");
        rota.addStock(5, 0, 4);
        rota.addStock(3, 1, 2);
        rota.addStock(3, 2, 2);
        Check.same("the same sum of other stocks", ranking(rota), "350124");
    }

    private static void daysEnded() {
        FoodTruckRota rota = new FoodTruckRota();
        rota.advance(59);
        Check.same("day() in the last minute", rota.day(), 0);
        for (int day = 1; day <= 15; day++) {
            rota.advance(60);
            Check.same("day()", rota.day(), day);
        }
        rota.undo();
        Check.same("day() after undo", rota.day(), 14);
    }

    private static void minutes() {
        FoodTruckRota rota = new FoodTruckRota();
        Check.same("the least", rota.minute(), 0);
        rota.advance(59);
        Check.same("the most", rota.minute(), 59);
        rota.advance(1);
        Check.same("the least again", rota.minute(), 0);
        rota.advance(60);
        Check.same("after a whole day", rota.minute(), 0);
    }

    private static void arrivedTotal() {
        FoodTruckRota rota = Rotas.queueing(9);
        Check.same("3 lost and 9 in the queue", rota.arrivedTotal(), 12);
        rota.setWeather(3);
        rota.advance(1);
        Check.same("3 more, lost", rota.arrivedTotal(), 15);
        rota.release(0, 0);
        rota.advance(60);
        Check.same("a day without trucks", rota.arrivedTotal(), 195);
        Check.same("at first", new FoodTruckRota().arrivedTotal(), 0);
    }

    private static void servedTotal() {
        FoodTruckRota rota = Rotas.queueing(3);
        Check.same("at first", rota.servedTotal(), 0);
        rota.advance(2);
        Check.same("not before the dish is ready", rota.servedTotal(), 0);
        rota.advance(1);
        Check.same("when it is", rota.servedTotal(), 1);
        rota.advance(60);
        Check.same("those who leave do not count", rota.servedTotal(), 1);
    }

    private static void disappointedTotal() {
        FoodTruckRota rota = Rotas.queueing(3);
        Check.same("at first", rota.disappointedTotal(), 0);
        rota.advance(4);
        Check.same("no dish 0 in stock", rota.disappointedTotal(), 1);
        rota.advance(60);
        Check.same("no dish 1 in stock", rota.disappointedTotal(), 2);
        FoodTruckRota lost = Rotas.trucks(1);
        lost.advance(60);
        Check.same("those who are lost do not count", lost.disappointedTotal(), 0);
    }

    private static void lostTotal() {
        FoodTruckRota rota = new FoodTruckRota();
        Check.same("at first", rota.lostTotal(), 0);
        rota.setWeather(3);
        rota.advance(60);
        Check.same("all", rota.lostTotal(), 180);
        FoodTruckRota served = Rotas.stocked(1, 50);
        served.advance(6);
        Check.same("none", served.lostTotal(), 0);
    }

    private static void soldPortions() {
        FoodTruckRota rota = Rotas.stocked(1, 1);
        for (int dish = 0; dish < 4; dish++) {
            Check.same("at first", rota.soldPortions(dish), 0);
        }
        rota.advance(20);
        for (int dish = 0; dish < 4; dish++) {
            Check.same("the one portion of dish " + dish, rota.soldPortions(dish), 1);
        }
        rota.advance(60);
        Check.same("it stays on the next day", rota.soldPortions(3), 1);
        Check.same("servedTotal()", rota.servedTotal(), 4);
    }

    private static void meanCoins() {
        Check.same("one truck", Rotas.trucks(1).meanCoins(), 0.0);
        FoodTruckRota rota = Rotas.stocked(1, 9);
        rota.setPrice(0, 20);
        rota.advance(1);
        Check.same("20 coins of 1 truck", rota.meanCoins(), 20.0);
        Rotas.add(rota, 2);
        Check.same("20 coins of 3 trucks", rota.meanCoins(), 20.0 / 3.0);
        Rotas.add(rota, 3);
        Check.same("20 coins of 6 trucks", rota.meanCoins(), 20.0 / 6.0);
    }

    private static void servedShare() {
        FoodTruckRota rota = Rotas.open(1);
        rota.addStock(0, 0, 1);
        rota.advance(1);
        Check.same("all", rota.servedShare(), 1.0f);
        rota.advance(2);
        Check.same("1 of 3", rota.servedShare(), 1.0f / 3.0f);
        rota.advance(4);
        Check.same("1 of 7", rota.servedShare(), 1.0f / 7.0f);
        FoodTruckRota none = Rotas.open(1);
        none.advance(60);
        Check.same("none of 60", none.servedShare(), 0.0f);
    }

    private static void isConsistent() {
        Check.same("a new object", new FoodTruckRota().isConsistent(), true);
        FoodTruckRota rota = Rotas.busy();
        Check.same("busy", rota.isConsistent(), true);
        rota.setWeather(3);
        rota.advance(50);
        Check.same("full queues", rota.isConsistent(), true);
        rota.revokePermit(1, 0);
        Check.same("after revokePermit", rota.isConsistent(), true);
        rota.release(0, 0);
        Check.same("after release", rota.isConsistent(), true);
        rota.advance(60);
        Check.same("on the next day", rota.isConsistent(), true);
        rota.undo();
        Check.same("after undo", rota.isConsistent(), true);
        rota.restore();
        Check.same("after restore", rota.isConsistent(), true);
    }

    private static void renderDay() {
        FoodTruckRota rota = Rotas.trucks(6);
        Check.same("none", Rotas.dayText(rota, 0), "-----");
        for (int truck = 1; truck < 6; truck++) {
            Rotas.permitAndAssign(rota, truck, 5 - truck, 6);
        }
        Check.same("all", Rotas.dayText(rota, 6), "54321");
        rota.release(0, 6);
        rota.release(4, 6);
        Check.same("the first and the last released", Rotas.dayText(rota, 6), "-432-");
        Check.same("the day before", Rotas.dayText(rota, 5), "-----");
    }

    private static void renderDayLength() {
        FoodTruckRota rota = Rotas.open(5);
        Check.same("all", rota.renderDay(0), 5);
        Check.same("none", rota.renderDay(6), 5);
        Check.same("without trucks", new FoodTruckRota().renderDay(3), 5);
        rota.renderTruck(0);
        Check.same("after a longer text", rota.renderDay(0), 5);
        Check.fails("outputAt(5)", INDEX, () -> rota.outputAt(5));
    }

    private static void renderQueue() {
        FoodTruckRota rota = Rotas.queueing(9);
        Check.same("a full queue", Rotas.truckText(rota, 0), "t0:0,0,0,9$0@0qqqqqqqqq");
        rota.release(0, 0);
        Check.same("closed", Rotas.truckText(rota, 0), "t0:0,0,0,9$0");
        rota.assign(0, 4, 0);
        Check.same("open with an empty queue", Rotas.truckText(rota, 0), "t0:0,0,0,9$0@4");
        FoodTruckRota tomorrow = Rotas.trucks(1);
        Rotas.permitAndAssign(tomorrow, 0, 3, 1);
        Check.same("assigned tomorrow", Rotas.truckText(tomorrow, 0), "t0:0,0,0,0$0");
        tomorrow.setWeather(0);
        tomorrow.advance(60);
        Check.same("open today", Rotas.truckText(tomorrow, 0), "t0:0,0,0,0$0@3");
    }

    private static void renderStocks() {
        FoodTruckRota rota = Rotas.trucks(6);
        Check.same("the least", Rotas.truckText(rota, 5), "t5:0,0,0,0$0");
        for (int dish = 0; dish < 4; dish++) {
            rota.addStock(5, dish, 50);
            rota.addStock(5, dish, 49);
        }
        Check.same("the most", Rotas.truckText(rota, 5), "t5:99,99,99,99$0");
        Check.same("the length", rota.renderTruck(5), 16);
        rota.addStock(1, 0, 5);
        rota.addStock(1, 2, 12);
        Check.same("one digit and two", Rotas.truckText(rota, 1), "t1:5,0,12,0$0");
        FoodTruckRota rich = Rotas.open(1);
        rich.addStock(0, 0, 50);
        rich.setPrice(0, 20);
        rich.advance(60);
        Check.same("three digits of coins", Rotas.truckText(rich, 0), "t0:35,0,0,0$300");
    }

    private static void outputIsEmpty() {
        FoodTruckRota rota = Rotas.trucks(1);
        Check.fails("outputAt(0)", INDEX, () -> rota.outputAt(0));
        Check.fails("renderTruck(1)", INDEX, () -> rota.renderTruck(1));
        Check.fails("renderDay(7)", ARGUMENT, () -> rota.renderDay(7));
        Check.fails("outputAt(0) after refused calls", INDEX, () -> rota.outputAt(0));
        rota.renderDay(0);
        Check.same("outputAt(0)", rota.outputAt(0), '-');
    }

    private static void outputIsReplaced() {
        FoodTruckRota rota = Rotas.queueing(9);
        Check.same("renderTruck(0)", rota.renderTruck(0), 23);
        Check.same("outputAt(22)", rota.outputAt(22), 'q');
        Check.fails("outputAt(23)", INDEX, () -> rota.outputAt(23));
        rota.renderDay(0);
        Check.same("outputAt(4)", rota.outputAt(4), '-');
        Check.fails("outputAt(5)", INDEX, () -> rota.outputAt(5));
        rota.release(0, 0);
        Check.same("the text stays when the state changes", Rotas.text(rota, 5), "0----");
    }

    private static void typedLength() {
        FoodTruckRota rota = new FoodTruckRota();
        for (int length = 1; length <= 60; length++) {
            Check.same("type", rota.type((char) (66 + length)), length);
        }
        Check.fails("type", STATE, () -> rota.type('x'));
    }

    private static void bufferIsEmptied() {
        FoodTruckRota good = new FoodTruckRota();
        Rotas.run(good, "truck");
        Check.same("type after a good script", good.type('x'), 1);
        FoodTruckRota wrong = new FoodTruckRota();
        Check.fails("a wrong form", ARGUMENT, () -> Rotas.run(wrong, "~".repeat(60)));
        Check.same("type after a wrong form", wrong.type('x'), 1);
        FoodTruckRota failing = new FoodTruckRota();
        Check.fails("a failing script", STATE, () -> Rotas.run(failing, "wait 0"));
        Check.same("type after a failing script", failing.type('x'), 1);
        FoodTruckRota empty = new FoodTruckRota();
        Check.fails("an empty buffer", ARGUMENT, empty::runScript);
        Check.fails("an empty buffer", ARGUMENT, empty::runScript);
        Check.same("type after an empty buffer", empty.type('x'), 1);
    }

    private static void numberOfCommands() {
        for (int commands = 1; commands <= 12; commands++) {
            FoodTruckRota rota = new FoodTruckRota();
            Check.same(commands + " commands", Rotas.run(rota, "wait" + ";wait".repeat(commands - 1)), commands);
            Check.same("minute()", rota.minute(), commands);
        }
    }

    private static void latestErrorPosition() {
        FoodTruckRota rota = new FoodTruckRota();
        Check.fails("run", ARGUMENT, () -> Rotas.run(rota, "wait 1x"));
        Check.same("errorPosition()", rota.errorPosition(), 6);
        Check.fails("run", ARGUMENT, rota::runScript);
        Check.same("errorPosition() of the empty script", rota.errorPosition(), 0);
        Check.fails("run", ARGUMENT, () -> Rotas.run(rota, "wait" + ";wait".repeat(10) + ";wait "));
        Check.same("the most", rota.errorPosition(), 60);
        Rotas.run(rota, "wait");
        Check.fails("run", STATE, () -> Rotas.run(rota, "wait 0"));
        Check.same("it stays after scripts with the form", rota.errorPosition(), 60);
        Check.same("it stays when it was asked for", rota.errorPosition(), 60);
    }

    private static void latestFailedCommand() {
        FoodTruckRota rota = new FoodTruckRota();
        Check.fails("run", STATE, () -> Rotas.run(rota, "wait;wait 0;wait 0"));
        Check.same("failedCommand()", rota.failedCommand(), 1);
        Rotas.run(rota, "wait");
        Check.fails("run", ARGUMENT, () -> Rotas.run(rota, "wait;wait;wait;x"));
        Check.same("it stays after other scripts", rota.failedCommand(), 1);
        Check.fails("run", STATE, () -> Rotas.run(rota, "wait;wait;free 0 0"));
        Check.same("failedCommand()", rota.failedCommand(), 2);
    }

    private static void failedFromZero() {
        FoodTruckRota rota = new FoodTruckRota();
        Check.fails("the first", STATE, () -> Rotas.run(rota, "free 0 0;wait"));
        Check.same("failedCommand()", rota.failedCommand(), 0);
        Check.fails("the last of 11", STATE, () -> Rotas.run(rota, "wait;".repeat(10) + "free 0 0"));
        Check.same("failedCommand()", rota.failedCommand(), 10);
        Check.fails("the seventh truck", STATE, () -> Rotas.run(rota, "wait;wait;" + "truck;".repeat(6) + "truck"));
        Check.same("failedCommand()", rota.failedCommand(), 8);
    }

    private static void latestNotUndone() {
        FoodTruckRota rota = new FoodTruckRota();
        rota.setPrice(0, 1);
        rota.setPrice(0, 2);
        rota.setPrice(0, 3);
        rota.undo();
        Check.same("price(0)", rota.price(0), 2);
        rota.undo();
        Check.same("price(0)", rota.price(0), 1);
        rota.setPrice(0, 4);
        rota.undo();
        Check.same("price(0), the new change is undone", rota.price(0), 1);
        rota.undo();
        Check.same("price(0), then the old one", rota.price(0), 5);
        Check.fails("undo()", ELEMENT, rota::undo);
    }

    private static void leftToUndo() {
        FoodTruckRota rota = Rotas.trucks(1);
        Check.same("of one", rota.undo(), 0);
        FoodTruckRota eight = Rotas.trucks(6);
        eight.setWeather(2);
        eight.setWeather(3);
        Check.same("of eight", eight.undo(), 7);
        eight.setWeather(0);
        eight.setWeather(1);
        Check.same("of nine", eight.undo(), 7);
    }

    private static void snapshotIsReplaced() {
        FoodTruckRota rota = Rotas.trucks(1);
        rota.save();
        rota.setPrice(0, 9);
        rota.save();
        rota.setPrice(0, 12);
        rota.restore();
        Check.same("price(0)", rota.price(0), 9);
        rota.addTruck();
        rota.save();
        rota.setPrice(0, 15);
        rota.restore();
        Check.same("truckCount() and price(0)", rota.truckCount() + " " + rota.price(0), "2 9");
    }

    private static void saveCounts() {
        Check.same("save() without trucks", new FoodTruckRota().save(), 0);
        Check.same("save() with 6 trucks", Rotas.trucks(6).save(), 6);
    }

    private static void snapshotIsKept() {
        FoodTruckRota rota = Rotas.busy();
        rota.save();
        String saved = Rotas.all(rota);
        for (int again = 1; again <= 2; again++) {
            rota.advance(60);
            rota.revokePermit(0, 0);
            rota.addStock(1, 0, 50);
            rota.addTruck();
            Check.same("restore() " + again, rota.restore(), 3);
            Check.same("all after restore " + again, Rotas.all(rota), saved);
        }
        Check.same("restore() at once", rota.restore(), 3);
    }

    private static void nothingToUndo() {
        FoodTruckRota rota = Rotas.busy();
        rota.restore();
        Check.fails("undo()", ELEMENT, rota::undo);
        rota.setWeather(0);
        Check.same("undo() of a later change", rota.undo(), 0);
        Check.fails("undo()", ELEMENT, rota::undo);
        Check.same("weather()", rota.weather(), 1);
    }

    private static void restoreCounts() {
        FoodTruckRota rota = new FoodTruckRota();
        rota.save();
        Rotas.add(rota, 6);
        Check.same("restore() without trucks", rota.restore(), 0);
        Rotas.add(rota, 6);
        rota.save();
        rota.undo();
        Check.same("restore() with 6 trucks", rota.restore(), 6);
        Check.same("truckCount()", rota.truckCount(), 6);
    }
}
