import java.util.Arrays;
import java.util.NoSuchElementException;

/** A planner for a rota of food trucks. */
public final class FoodTruckRota {

    private static final int MOST_TRUCKS = 6;
    private static final int DISHES = 4;
    private static final int PITCHES = 5;
    private static final int WEEKDAYS = 7;
    private static final int DAY_MINUTES = 60;
    private static final int LONGEST_QUEUE = 9;
    private static final int MOST_STOCK = 99;
    private static final int MOST_PORTIONS = 50;
    private static final int MOST_PRICE = 20;
    private static final int FIRST_PRICE = 5;
    private static final int MOST_CUSTOMERS = 3;
    private static final int MOST_MINUTES = 60;
    private static final int UNDO_LIMIT = 8;
    private static final int SCRIPT_LIMIT = 60;
    private static final int FIRST_SIGN = 32;
    private static final int LAST_SIGN = 126;
    // No command is shorter than the four characters of "wait" or "free".
    private static final int MOST_STEPS = SCRIPT_LIMIT / 4;
    private static final int MOST_ARGUMENTS = 3;

    // What stands where there is no truck, pitch, dish, day or position.
    private static final int NONE = -1;

    // Every answer of a change is 0 or more, so that a refused one can be told by a number below.
    private static final int NO_SUCH_INDEX = -1;
    private static final int BAD_ARGUMENT = -2;
    private static final int NO_PERMIT = -3;
    private static final int BAD_STATE = -4;
    private static final int NO_ASSIGNMENT = -5;

    private final Square square = new Square();
    // Changes and predictions run here first, so that one that fails leaves the square as it was.
    private final Square draft = new Square();
    private final Square snapshot = new Square();
    private final History history = new History();
    private final Script script = new Script();
    private final StringBuilder output = new StringBuilder();
    private boolean saved;
    private int latestErrorPosition = NONE;
    private int latestFailedCommand = NONE;

    public FoodTruckRota() {
    }

    public int addTruck() throws IllegalStateException {
        return change(Command.TRUCK, 0, 0, 0);
    }

    public int addStock(int truck, int dish, int portions)
            throws IndexOutOfBoundsException, IllegalArgumentException, IllegalStateException {
        return change(Command.STOCK, truck, dish, portions);
    }

    public int setPrice(int dish, int coins) throws IndexOutOfBoundsException, IllegalArgumentException {
        return change(Command.PRICE, dish, coins, 0);
    }

    public int grantPermit(int truck, int weekday)
            throws IndexOutOfBoundsException, IllegalArgumentException, IllegalStateException {
        return change(Command.PERMIT, truck, weekday, 0);
    }

    public boolean revokePermit(int truck, int weekday)
            throws IndexOutOfBoundsException, IllegalArgumentException, IllegalStateException {
        return change(Command.REVOKE, truck, weekday, 0) > 0;
    }

    public int assign(int truck, int pitch, int weekday)
            throws IndexOutOfBoundsException, IllegalArgumentException, UnsupportedOperationException,
            IllegalStateException {
        return change(Command.ASSIGN, truck, pitch, weekday);
    }

    public int release(int pitch, int weekday)
            throws IndexOutOfBoundsException, IllegalArgumentException, NoSuchElementException {
        return change(Command.FREE, pitch, weekday, 0);
    }

    public int setWeather(int customers) throws IllegalArgumentException {
        return change(Command.WEATHER, customers, 0, 0);
    }

    public int advance(int minutes) throws IllegalArgumentException {
        return change(Command.WAIT, minutes, 0, 0);
    }

    public int truckCount() {
        return square.truckTotal;
    }

    public int stock(int truck, int dish) throws IndexOutOfBoundsException {
        needTruck(truck);
        needDish(dish);
        return square.trucks[truck].portionsOf(dish);
    }

    public int coins(int truck) throws IndexOutOfBoundsException {
        needTruck(truck);
        return square.trucks[truck].earned;
    }

    public int price(int dish) throws IndexOutOfBoundsException {
        needDish(dish);
        return square.prices[dish];
    }

    public boolean hasPermit(int truck, int weekday) throws IndexOutOfBoundsException, IllegalArgumentException {
        needTruck(truck);
        needWeekday(weekday);
        return square.trucks[truck].isPermitted(weekday);
    }

    public int truckAt(int pitch, int weekday)
            throws IndexOutOfBoundsException, IllegalArgumentException, NoSuchElementException {
        needPitch(pitch);
        needWeekday(weekday);
        return needFound(square.holderOf(pitch, weekday));
    }

    public int pitchOf(int truck, int weekday)
            throws IndexOutOfBoundsException, IllegalArgumentException, NoSuchElementException {
        needTruck(truck);
        needWeekday(weekday);
        return needFound(square.pitchHeldBy(truck, weekday));
    }

    public boolean isOpen(int truck) throws IndexOutOfBoundsException {
        needTruck(truck);
        return square.pitchToday(truck) != NONE;
    }

    public int assignments() {
        return square.countByPitches();
    }

    public int assignmentsByTrucks() {
        return square.countByTrucks();
    }

    public int firstFreeDay(int truck) throws IndexOutOfBoundsException, NoSuchElementException {
        needTruck(truck);
        return needFound(square.freeDayFor(truck));
    }

    public int firstFreePitch(int weekday) throws IllegalArgumentException, NoSuchElementException {
        needWeekday(weekday);
        return needFound(square.pitchHeldBy(NONE, weekday));
    }

    public int queueLength(int truck) throws IndexOutOfBoundsException {
        needTruck(truck);
        return square.trucks[truck].queued;
    }

    public int wantedDish(int truck, int position) throws IndexOutOfBoundsException, NoSuchElementException {
        needTruck(truck);
        return needFound(square.trucks[truck].wishAt(position));
    }

    public int minutesLeft(int truck) throws IndexOutOfBoundsException {
        needTruck(truck);
        return square.trucks[truck].minutesToGo;
    }

    public int queueTime(int truck) throws IndexOutOfBoundsException {
        needTruck(truck);
        return square.trucks[truck].minutesForQueue();
    }

    public int servedWithin(int minutes) throws IllegalArgumentException {
        if (minutes < 0 || minutes > MOST_MINUTES) {
            throw new IllegalArgumentException("minutes is not between 0 and 60");
        }
        draft.copyFrom(square);
        return draft.passMinutes(minutes);
    }

    public int truckByCoins(int rank) throws NoSuchElementException {
        return needFound(square.truckRanked(rank));
    }

    public int day() {
        return square.dayCounter;
    }

    public int minute() {
        return square.minuteCounter;
    }

    public int weather() {
        return square.customersPerMinute;
    }

    public int arrivedTotal() {
        return square.arrived;
    }

    public int servedTotal() {
        return square.served;
    }

    public int disappointedTotal() {
        return square.disappointed;
    }

    public int lostTotal() {
        return square.lost;
    }

    public int soldPortions(int dish) throws IndexOutOfBoundsException {
        needDish(dish);
        return square.sold[dish];
    }

    public double meanCoins() throws ArithmeticException {
        if (square.truckTotal == 0) {
            throw new ArithmeticException("there are no trucks");
        }
        return (double) square.sumOfCoins() / (double) square.truckTotal;
    }

    public float servedShare() throws ArithmeticException {
        if (square.arrived == 0) {
            throw new ArithmeticException("no customer has arrived");
        }
        return (float) square.served / (float) square.arrived;
    }

    public boolean isConsistent() {
        return square.countByPitches() == square.countByTrucks()
                && square.arrived == square.served + square.disappointed + square.lost + square.sumOfQueues()
                && square.everyHolderIsPermitted()
                && square.served == square.sumOfSold();
    }

    public int renderDay(int weekday) throws IllegalArgumentException {
        needWeekday(weekday);
        output.setLength(0);
        for (int pitch = 0; pitch < PITCHES; pitch++) {
            int holder = square.holderOf(pitch, weekday);
            if (holder == NONE) {
                output.append('-');
            } else {
                output.append(holder);
            }
        }
        return output.length();
    }

    public int renderTruck(int truck) throws IndexOutOfBoundsException {
        needTruck(truck);
        Truck shown = square.trucks[truck];
        output.setLength(0);
        output.append('t').append(truck).append(':');
        for (int dish = 0; dish < DISHES; dish++) {
            if (dish > 0) {
                output.append(',');
            }
            output.append(shown.portionsOf(dish));
        }
        output.append('$').append(shown.earned);
        int pitch = square.pitchToday(truck);
        if (pitch != NONE) {
            output.append('@').append(pitch);
            for (int customer = 0; customer < shown.queued; customer++) {
                output.append('q');
            }
        }
        return output.length();
    }

    public char outputAt(int index) throws IndexOutOfBoundsException {
        if (index < 0 || index >= output.length()) {
            throw new IndexOutOfBoundsException("no such index in the output text");
        }
        return output.charAt(index);
    }

    public int type(char character) throws IllegalArgumentException, IllegalStateException {
        if (character < FIRST_SIGN || character > LAST_SIGN) {
            throw new IllegalArgumentException("the character code is not between 32 and 126");
        }
        if (script.text.length() >= SCRIPT_LIMIT) {
            throw new IllegalStateException("the script buffer is full");
        }
        script.text.append(character);
        return script.text.length();
    }

    public int runScript() throws IllegalArgumentException, IllegalStateException {
        boolean hasForm = script.read();
        script.text.setLength(0);
        if (!hasForm) {
            latestErrorPosition = script.position;
            throw new IllegalArgumentException("the script does not have the required form");
        }
        draft.copyFrom(square);
        for (int index = 0; index < script.stepTotal && index < MOST_STEPS; index++) {
            Step step = script.steps[index];
            if (draft.carryOut(step.command, step.arguments[0], step.arguments[1], step.arguments[2]) < 0) {
                latestFailedCommand = index;
                throw new IllegalStateException("a command of the script failed");
            }
        }
        takeDraft();
        return script.stepTotal;
    }

    public int errorPosition() throws NoSuchElementException {
        return needFound(latestErrorPosition);
    }

    public int failedCommand() throws NoSuchElementException {
        return needFound(latestFailedCommand);
    }

    public int undo() throws NoSuchElementException {
        if (!history.giveBack(square)) {
            throw new NoSuchElementException("there is nothing to undo");
        }
        return history.kept;
    }

    public int save() {
        snapshot.copyFrom(square);
        saved = true;
        return square.truckTotal;
    }

    public int restore() throws IllegalStateException {
        if (!saved) {
            throw new IllegalStateException("there is no snapshot");
        }
        square.copyFrom(snapshot);
        history.kept = 0;
        return square.truckTotal;
    }

    private int change(Command command, int first, int second, int third) {
        draft.copyFrom(square);
        int answer = draft.carryOut(command, first, second, third);
        if (answer < 0) {
            refuse(answer);
        }
        takeDraft();
        return answer;
    }

    private void takeDraft() {
        history.keep(square);
        square.copyFrom(draft);
    }

    private static void refuse(int refusal) {
        switch (refusal) {
            case NO_SUCH_INDEX:
                throw new IndexOutOfBoundsException("no such truck, dish or pitch");
            case BAD_ARGUMENT:
                throw new IllegalArgumentException("an argument is out of its range");
            case NO_PERMIT:
                throw new UnsupportedOperationException("the truck has no permit for this day of the week");
            case NO_ASSIGNMENT:
                throw new NoSuchElementException("the pitch is not assigned on this day of the week");
            default:
                throw new IllegalStateException("the state does not allow this change");
        }
    }

    private void needTruck(int truck) {
        if (!square.isTruck(truck)) {
            throw new IndexOutOfBoundsException("no such truck");
        }
    }

    private static void needDish(int dish) {
        if (!isDish(dish)) {
            throw new IndexOutOfBoundsException("no such dish");
        }
    }

    private static void needPitch(int pitch) {
        if (!isPitch(pitch)) {
            throw new IndexOutOfBoundsException("no such pitch");
        }
    }

    private static void needWeekday(int weekday) {
        if (!isWeekday(weekday)) {
            throw new IllegalArgumentException("weekday is not between 0 and 6");
        }
    }

    private static int needFound(int found) {
        if (found == NONE) {
            throw new NoSuchElementException("there is none");
        }
        return found;
    }

    private static boolean isDish(int dish) {
        return dish >= 0 && dish < DISHES;
    }

    private static boolean isPitch(int pitch) {
        return pitch >= 0 && pitch < PITCHES;
    }

    private static boolean isWeekday(int weekday) {
        return weekday >= 0 && weekday < WEEKDAYS;
    }

    private static int minutesFor(int dish) {
        return dish + 1;
    }

    /** The commands of scripts, which are also the changes of the face but for runScript. */
    private enum Command {
        TRUCK("truck", 0, false),
        STOCK("stock", 3, true),
        PRICE("price", 2, true),
        PERMIT("permit", 2, false),
        REVOKE("revoke", 2, false),
        ASSIGN("assign", 3, false),
        FREE("free", 2, false),
        WEATHER("weather", 1, false),
        WAIT("wait", 1, true);

        private static final Command[] ALL = values();

        private final String word;
        private final int argumentTotal;
        private final boolean endsWithNumber;

        Command(String word, int argumentTotal, boolean endsWithNumber) {
            this.word = word;
            this.argumentTotal = argumentTotal;
            this.endsWithNumber = endsWithNumber;
        }
    }

    /** One truck with its stock, its permits and its queue. */
    private static final class Truck {
        private final int[] portions = new int[DISHES];
        private final int[] wishes = new int[LONGEST_QUEUE];
        private int queued;
        private int minutesToGo;
        private int earned;
        private int permitBits;

        void copyFrom(Truck other) {
            System.arraycopy(other.portions, 0, portions, 0, DISHES);
            System.arraycopy(other.wishes, 0, wishes, 0, LONGEST_QUEUE);
            queued = other.queued;
            minutesToGo = other.minutesToGo;
            earned = other.earned;
            permitBits = other.permitBits;
        }

        int portionsOf(int dish) {
            return isDish(dish) ? portions[dish] : 0;
        }

        int sumOfPortions() {
            int sum = 0;
            for (int dish = 0; dish < DISHES; dish++) {
                sum += portions[dish];
            }
            return sum;
        }

        boolean isPermitted(int weekday) {
            return isWeekday(weekday) && (permitBits & (1 << weekday)) != 0;
        }

        boolean joinQueue(int dish) {
            if (queued < 0 || queued >= LONGEST_QUEUE) {
                return false;
            }
            wishes[queued] = dish;
            queued++;
            return true;
        }

        int wishAt(int position) {
            if (position < 0 || position >= queued || position >= LONGEST_QUEUE) {
                return NONE;
            }
            return wishes[position];
        }

        void dropFirst() {
            for (int position = 1; position < LONGEST_QUEUE; position++) {
                wishes[position - 1] = wishes[position];
            }
            queued--;
        }

        int sendAllAway() {
            int gone = queued;
            queued = 0;
            minutesToGo = 0;
            return gone;
        }

        int minutesForQueue() {
            int minutes = 0;
            for (int position = 0; position < queued; position++) {
                minutes += minutesFor(wishAt(position));
            }
            if (minutesToGo > 0) {
                minutes -= minutesFor(wishAt(0)) - minutesToGo;
            }
            return minutes;
        }

        boolean ranksBefore(Truck other) {
            if (earned != other.earned) {
                return earned > other.earned;
            }
            return sumOfPortions() > other.sumOfPortions();
        }
    }

    /** All that undo and the snapshot cover. */
    private static final class Square {
        private final Truck[] trucks = new Truck[MOST_TRUCKS];
        private final int[] holders = new int[PITCHES * WEEKDAYS];
        private final int[] prices = new int[DISHES];
        private final int[] sold = new int[DISHES];
        private int truckTotal;
        private int dayCounter;
        private int minuteCounter;
        private int customersPerMinute = 1;
        private int arrived;
        private int served;
        private int disappointed;
        private int lost;

        Square() {
            for (int truck = 0; truck < MOST_TRUCKS; truck++) {
                trucks[truck] = new Truck();
            }
            Arrays.fill(holders, NONE);
            Arrays.fill(prices, FIRST_PRICE);
        }

        void copyFrom(Square other) {
            for (int truck = 0; truck < MOST_TRUCKS; truck++) {
                trucks[truck].copyFrom(other.trucks[truck]);
            }
            System.arraycopy(other.holders, 0, holders, 0, PITCHES * WEEKDAYS);
            System.arraycopy(other.prices, 0, prices, 0, DISHES);
            System.arraycopy(other.sold, 0, sold, 0, DISHES);
            truckTotal = other.truckTotal;
            dayCounter = other.dayCounter;
            minuteCounter = other.minuteCounter;
            customersPerMinute = other.customersPerMinute;
            arrived = other.arrived;
            served = other.served;
            disappointed = other.disappointed;
            lost = other.lost;
        }

        /** Answers what the method of the command returns, or which refusal it meets. */
        int carryOut(Command command, int first, int second, int third) {
            switch (command) {
                case TRUCK:
                    return openTruck();
                case STOCK:
                    return loadPortions(first, second, third);
                case PRICE:
                    return changePrice(first, second);
                case PERMIT:
                    return givePermit(first, second);
                case REVOKE:
                    return takePermit(first, second);
                case ASSIGN:
                    return holdPitch(first, second, third);
                case FREE:
                    return leavePitch(first, second);
                case WEATHER:
                    return changeWeather(first);
                default:
                    return isWait(first) ? passMinutes(first) : BAD_ARGUMENT;
            }
        }

        private int openTruck() {
            if (truckTotal >= MOST_TRUCKS) {
                return BAD_STATE;
            }
            truckTotal++;
            return truckTotal - 1;
        }

        private int loadPortions(int truck, int dish, int added) {
            if (!isTruck(truck) || !isDish(dish)) {
                return NO_SUCH_INDEX;
            }
            if (added < 1 || added > MOST_PORTIONS) {
                return BAD_ARGUMENT;
            }
            int[] portions = trucks[truck].portions;
            if (portions[dish] + added > MOST_STOCK) {
                return BAD_STATE;
            }
            portions[dish] += added;
            return portions[dish];
        }

        private int changePrice(int dish, int coins) {
            if (!isDish(dish)) {
                return NO_SUCH_INDEX;
            }
            if (coins < 1 || coins > MOST_PRICE) {
                return BAD_ARGUMENT;
            }
            int previous = prices[dish];
            prices[dish] = coins;
            return previous;
        }

        private int givePermit(int truck, int weekday) {
            if (!isTruck(truck)) {
                return NO_SUCH_INDEX;
            }
            if (!isWeekday(weekday)) {
                return BAD_ARGUMENT;
            }
            if (trucks[truck].isPermitted(weekday)) {
                return BAD_STATE;
            }
            trucks[truck].permitBits |= 1 << weekday;
            return Integer.bitCount(trucks[truck].permitBits);
        }

        private int takePermit(int truck, int weekday) {
            if (!isTruck(truck)) {
                return NO_SUCH_INDEX;
            }
            if (!isWeekday(weekday)) {
                return BAD_ARGUMENT;
            }
            if (!trucks[truck].isPermitted(weekday)) {
                return BAD_STATE;
            }
            trucks[truck].permitBits &= ~(1 << weekday);
            int pitch = pitchHeldBy(truck, weekday);
            if (pitch == NONE) {
                return 0;
            }
            endAssignment(pitch, weekday);
            return 1;
        }

        private int holdPitch(int truck, int pitch, int weekday) {
            if (!isTruck(truck) || !isPitch(pitch)) {
                return NO_SUCH_INDEX;
            }
            if (!isWeekday(weekday)) {
                return BAD_ARGUMENT;
            }
            if (!trucks[truck].isPermitted(weekday)) {
                return NO_PERMIT;
            }
            if (holderOf(pitch, weekday) != NONE || pitchHeldBy(truck, weekday) != NONE) {
                return BAD_STATE;
            }
            setHolder(pitch, weekday, truck);
            return countFor(truck);
        }

        private int leavePitch(int pitch, int weekday) {
            if (!isPitch(pitch)) {
                return NO_SUCH_INDEX;
            }
            if (!isWeekday(weekday)) {
                return BAD_ARGUMENT;
            }
            int holder = holderOf(pitch, weekday);
            if (holder == NONE) {
                return NO_ASSIGNMENT;
            }
            endAssignment(pitch, weekday);
            return holder;
        }

        private int changeWeather(int customers) {
            if (customers < 0 || customers > MOST_CUSTOMERS) {
                return BAD_ARGUMENT;
            }
            int previous = customersPerMinute;
            customersPerMinute = customers;
            return previous;
        }

        private static boolean isWait(int minutes) {
            return minutes >= 1 && minutes <= MOST_MINUTES;
        }

        boolean isTruck(int truck) {
            return truck >= 0 && truck < truckTotal && truck < MOST_TRUCKS;
        }

        int holderOf(int pitch, int weekday) {
            if (pitch < 0 || pitch >= PITCHES || weekday < 0 || weekday >= WEEKDAYS) {
                return NONE;
            }
            return holders[pitch * WEEKDAYS + weekday];
        }

        private void setHolder(int pitch, int weekday, int truck) {
            if (isPitch(pitch) && isWeekday(weekday)) {
                holders[pitch * WEEKDAYS + weekday] = truck;
            }
        }

        /** The lowest pitch that the truck holds on the day, or that nobody holds if the truck is NONE. */
        int pitchHeldBy(int truck, int weekday) {
            for (int pitch = 0; pitch < PITCHES; pitch++) {
                if (holderOf(pitch, weekday) == truck) {
                    return pitch;
                }
            }
            return NONE;
        }

        int pitchToday(int truck) {
            return pitchHeldBy(truck, today());
        }

        private int today() {
            return Math.floorMod(dayCounter, WEEKDAYS);
        }

        private void endAssignment(int pitch, int weekday) {
            int holder = holderOf(pitch, weekday);
            setHolder(pitch, weekday, NONE);
            if (weekday == today() && isTruck(holder)) {
                disappointed += trucks[holder].sendAllAway();
            }
        }

        int countByPitches() {
            int count = 0;
            for (int pitch = 0; pitch < PITCHES; pitch++) {
                for (int weekday = 0; weekday < WEEKDAYS; weekday++) {
                    if (holderOf(pitch, weekday) != NONE) {
                        count++;
                    }
                }
            }
            return count;
        }

        int countByTrucks() {
            int count = 0;
            for (int truck = 0; truck < truckTotal; truck++) {
                count += countFor(truck);
            }
            return count;
        }

        private int countFor(int truck) {
            int count = 0;
            for (int weekday = 0; weekday < WEEKDAYS; weekday++) {
                if (pitchHeldBy(truck, weekday) != NONE) {
                    count++;
                }
            }
            return count;
        }

        int freeDayFor(int truck) {
            if (!isTruck(truck)) {
                return NONE;
            }
            for (int weekday = 0; weekday < WEEKDAYS; weekday++) {
                if (trucks[truck].isPermitted(weekday) && pitchHeldBy(truck, weekday) == NONE
                        && pitchHeldBy(NONE, weekday) != NONE) {
                    return weekday;
                }
            }
            return NONE;
        }

        /** Lets minutes pass and answers how many customers are served in them. */
        int passMinutes(int minutes) {
            int before = served;
            for (int passed = 0; passed < minutes; passed++) {
                letCustomersArrive();
                letTrucksWork();
                minuteCounter++;
                if (minuteCounter >= DAY_MINUTES) {
                    endDay();
                }
            }
            return served - before;
        }

        private void letCustomersArrive() {
            for (int customer = 0; customer < customersPerMinute; customer++) {
                int wish = Math.floorMod(arrived, DISHES);
                arrived++;
                Truck host = shortestOpenQueue();
                if (host == null || !host.joinQueue(wish)) {
                    lost++;
                }
            }
        }

        private Truck shortestOpenQueue() {
            Truck shortest = null;
            int weekday = today();
            for (int pitch = 0; pitch < PITCHES; pitch++) {
                int holder = holderOf(pitch, weekday);
                if (isTruck(holder) && (shortest == null || trucks[holder].queued < shortest.queued)) {
                    shortest = trucks[holder];
                }
            }
            return shortest;
        }

        private void letTrucksWork() {
            int weekday = today();
            for (int pitch = 0; pitch < PITCHES; pitch++) {
                int holder = holderOf(pitch, weekday);
                if (isTruck(holder)) {
                    letWork(trucks[holder]);
                }
            }
        }

        private void letWork(Truck truck) {
            int wish = truck.wishAt(0);
            if (!isDish(wish)) {
                return;
            }
            if (truck.minutesToGo == 0) {
                if (truck.portions[wish] == 0) {
                    truck.dropFirst();
                    disappointed++;
                    return;
                }
                truck.minutesToGo = minutesFor(wish);
            }
            truck.minutesToGo--;
            if (truck.minutesToGo > 0) {
                return;
            }
            truck.dropFirst();
            truck.portions[wish]--;
            truck.earned += prices[wish];
            sold[wish]++;
            served++;
        }

        private void endDay() {
            for (int truck = 0; truck < MOST_TRUCKS; truck++) {
                disappointed += trucks[truck].sendAllAway();
            }
            dayCounter++;
            minuteCounter = 0;
        }

        int truckRanked(int rank) {
            for (int truck = 0; truck < truckTotal; truck++) {
                if (rankOf(truck) == rank) {
                    return truck;
                }
            }
            return NONE;
        }

        private int rankOf(int truck) {
            if (!isTruck(truck)) {
                return NONE;
            }
            int rank = 0;
            for (int other = 0; other < truckTotal && other < MOST_TRUCKS; other++) {
                boolean isBefore = other < truck
                        ? !trucks[truck].ranksBefore(trucks[other])
                        : trucks[other].ranksBefore(trucks[truck]);
                if (isBefore) {
                    rank++;
                }
            }
            return rank;
        }

        int sumOfCoins() {
            int sum = 0;
            for (int truck = 0; truck < MOST_TRUCKS; truck++) {
                sum += trucks[truck].earned;
            }
            return sum;
        }

        int sumOfQueues() {
            int sum = 0;
            for (int truck = 0; truck < MOST_TRUCKS; truck++) {
                sum += trucks[truck].queued;
            }
            return sum;
        }

        int sumOfSold() {
            int sum = 0;
            for (int dish = 0; dish < DISHES; dish++) {
                sum += sold[dish];
            }
            return sum;
        }

        boolean everyHolderIsPermitted() {
            for (int pitch = 0; pitch < PITCHES; pitch++) {
                for (int weekday = 0; weekday < WEEKDAYS; weekday++) {
                    int holder = holderOf(pitch, weekday);
                    if (holder != NONE && !(isTruck(holder) && trucks[holder].isPermitted(weekday))) {
                        return false;
                    }
                }
            }
            return true;
        }
    }

    /** The squares as they were before the latest changes, the oldest first. */
    private static final class History {
        private final Square[] earlier = new Square[UNDO_LIMIT];
        private int kept;

        History() {
            for (int change = 0; change < UNDO_LIMIT; change++) {
                earlier[change] = new Square();
            }
        }

        void keep(Square square) {
            if (kept >= UNDO_LIMIT) {
                forgetOldest();
            }
            if (kept >= 0 && kept < UNDO_LIMIT) {
                earlier[kept].copyFrom(square);
                kept++;
            }
        }

        // The square of the oldest change is used again, so that no call makes a new one.
        private void forgetOldest() {
            Square oldest = earlier[0];
            for (int change = 1; change < UNDO_LIMIT; change++) {
                earlier[change - 1] = earlier[change];
            }
            earlier[UNDO_LIMIT - 1] = oldest;
            kept = UNDO_LIMIT - 1;
        }

        boolean giveBack(Square square) {
            if (kept < 1 || kept > UNDO_LIMIT) {
                return false;
            }
            kept--;
            square.copyFrom(earlier[kept]);
            return true;
        }
    }

    /** One command of a script with its arguments. */
    private static final class Step {
        private Command command = Command.TRUCK;
        private final int[] arguments = new int[MOST_ARGUMENTS];
    }

    /** The script buffer, and the steps that the latest script came to. */
    private static final class Script {
        private final StringBuilder text = new StringBuilder();
        private final Step[] steps = new Step[MOST_STEPS];
        private int stepTotal;
        // Where the reading stands; after a script without the form, its error position.
        private int position;

        Script() {
            for (int step = 0; step < MOST_STEPS; step++) {
                steps[step] = new Step();
            }
        }

        /** Reads the text into steps and answers whether it has the form of a script. */
        boolean read() {
            position = 0;
            stepTotal = 0;
            while (stepTotal < MOST_STEPS) {
                if (!readStep(steps[stepTotal])) {
                    return false;
                }
                stepTotal++;
                if (position >= text.length()) {
                    return true;
                }
                if (!readSign(';')) {
                    return false;
                }
            }
            return false;
        }

        private boolean readStep(Step step) {
            Command command = readWord();
            if (command == null) {
                return false;
            }
            step.command = command;
            if (command == Command.WAIT && !hasAt(position, ' ')) {
                step.arguments[0] = 1;
                return true;
            }
            int last = command.argumentTotal - 1;
            for (int index = 0; index <= last && index < MOST_ARGUMENTS; index++) {
                int argument = readArgument(index == last && command.endsWithNumber);
                if (argument == NONE) {
                    return false;
                }
                step.arguments[index] = argument;
            }
            return true;
        }

        private int readArgument(boolean mayHaveTwoDigits) {
            if (!readSign(' ')) {
                return NONE;
            }
            int first = readDigit();
            if (first == NONE || !mayHaveTwoDigits) {
                return first;
            }
            int second = readDigit();
            return second == NONE ? first : first * 10 + second;
        }

        // No word is the start of another, so the longest match tells where a wrong word goes wrong.
        private Command readWord() {
            int longest = 0;
            for (int index = 0; index < Command.ALL.length; index++) {
                Command command = Command.ALL[index];
                int matched = matchedSigns(command.word);
                if (matched == command.word.length()) {
                    position += matched;
                    return command;
                }
                longest = Math.max(longest, matched);
            }
            position += longest;
            return null;
        }

        private int matchedSigns(String word) {
            int matched = 0;
            while (matched < word.length() && hasAt(position + matched, word.charAt(matched))) {
                matched++;
            }
            return matched;
        }

        private boolean readSign(char sign) {
            if (!hasAt(position, sign)) {
                return false;
            }
            position++;
            return true;
        }

        private int readDigit() {
            if (position < 0 || position >= text.length()) {
                return NONE;
            }
            char sign = text.charAt(position);
            if (sign < '0' || sign > '9') {
                return NONE;
            }
            position++;
            return sign - '0';
        }

        private boolean hasAt(int index, char sign) {
            return index >= 0 && index < text.length() && text.charAt(index) == sign;
        }
    }
}
