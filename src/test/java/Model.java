import java.util.ArrayDeque;
import java.util.ArrayList;
import java.util.Deque;
import java.util.List;
import java.util.NoSuchElementException;
import java.util.TreeMap;
import java.util.regex.Matcher;
import java.util.regex.Pattern;

/** The document once more, in another form than the program's, to compare long runs with. */
final class Model {
    private static final String NUMBER = "[0-9][0-9]?";
    private static final String COMMAND = "(?:truck|stock [0-9] [0-9] " + NUMBER + "|price [0-9] " + NUMBER
            + "|permit [0-9] [0-9]|revoke [0-9] [0-9]|assign [0-9] [0-9] [0-9]|free [0-9] [0-9]|weather [0-9]"
            + "|wait(?: " + NUMBER + ")?)";
    private static final Pattern SCRIPT = Pattern.compile(COMMAND + "(?:;" + COMMAND + ")*");

    /** A truck; the dish in the pan is the first of the queue while minutes is above 0. */
    private static final class Van {
        int coins;
        int minutes;
        List<Integer> stock = new ArrayList<>(List.of(0, 0, 0, 0));
        List<Integer> permits = new ArrayList<>();
        List<Integer> queue = new ArrayList<>();
    }

    private static final class State {
        List<Van> vans = new ArrayList<>();
        TreeMap<Integer, TreeMap<Integer, Integer>> pitchesOfDay = new TreeMap<>();
        List<Integer> prices = new ArrayList<>(List.of(5, 5, 5, 5));
        List<Integer> sold = new ArrayList<>(List.of(0, 0, 0, 0));
        int minutes;
        int weather = 1;
        int arrived;
        int disappointed;
        int lost;

        State copy() {
            State copy = new State();
            for (Van van : vans) {
                Van other = new Van();
                other.coins = van.coins;
                other.minutes = van.minutes;
                other.stock = new ArrayList<>(van.stock);
                other.permits = new ArrayList<>(van.permits);
                other.queue = new ArrayList<>(van.queue);
                copy.vans.add(other);
            }
            for (int day : pitchesOfDay.keySet()) {
                copy.pitchesOfDay.put(day, new TreeMap<>(pitchesOfDay.get(day)));
            }
            copy.prices = new ArrayList<>(prices);
            copy.sold = new ArrayList<>(sold);
            copy.minutes = minutes;
            copy.weather = weather;
            copy.arrived = arrived;
            copy.disappointed = disappointed;
            copy.lost = lost;
            return copy;
        }

        TreeMap<Integer, Integer> rota(int day) {
            return pitchesOfDay.computeIfAbsent(day, key -> new TreeMap<>());
        }

        TreeMap<Integer, Integer> rotaToday() {
            return rota(minutes / 60 % 7);
        }

        int served() {
            return sold.get(0) + sold.get(1) + sold.get(2) + sold.get(3);
        }
    }

    private State state = new State();
    private State saved;
    private final Deque<State> past = new ArrayDeque<>();
    private String buffer = "";
    private String output = "";
    private int errorPosition = -1;
    private int failedCommand = -1;

    private static void need(boolean holds, RuntimeException otherwise) {
        if (!holds) {
            throw otherwise;
        }
    }

    private Van van(int truck) {
        need(truck >= 0 && truck < state.vans.size(), new IndexOutOfBoundsException());
        return state.vans.get(truck);
    }

    private static void needIndex(int index, int size) {
        need(index >= 0 && index < size, new IndexOutOfBoundsException());
    }

    private static void needDay(int weekday) {
        needRange(weekday, 0, 6);
    }

    private static void needRange(int value, int low, int high) {
        need(value >= low && value <= high, new IllegalArgumentException());
    }

    /** A change keeps the state as it was only if it returns. */
    Object change(String method, int a, int b, int c) {
        State before = state.copy();
        Object answer;
        try {
            answer = carryOut(method, a, b, c);
        } catch (RuntimeException e) {
            state = before;
            throw e;
        }
        past.push(before);
        if (past.size() > 8) {
            past.removeLast();
        }
        return answer;
    }

    private Object carryOut(String method, int a, int b, int c) {
        switch (method) {
            case "addTruck":
                need(state.vans.size() < 6, new IllegalStateException());
                state.vans.add(new Van());
                return state.vans.size() - 1;
            case "addStock":
                van(a);
                needIndex(b, 4);
                needRange(c, 1, 50);
                need(van(a).stock.get(b) + c <= 99, new IllegalStateException());
                van(a).stock.set(b, van(a).stock.get(b) + c);
                return van(a).stock.get(b);
            case "setPrice":
                needIndex(a, 4);
                needRange(b, 1, 20);
                return state.prices.set(a, b);
            case "grantPermit":
                van(a);
                needDay(b);
                need(!van(a).permits.contains(b), new IllegalStateException());
                van(a).permits.add(b);
                return van(a).permits.size();
            case "revokePermit":
                van(a);
                needDay(b);
                need(van(a).permits.remove((Integer) b), new IllegalStateException());
                for (int pitch = 0; pitch < 5; pitch++) {
                    if (Integer.valueOf(a).equals(state.rota(b).get(pitch))) {
                        end(pitch, b);
                        return true;
                    }
                }
                return false;
            case "assign":
                van(a);
                needIndex(b, 5);
                needDay(c);
                need(van(a).permits.contains(c), new UnsupportedOperationException());
                need(!state.rota(c).containsKey(b) && !state.rota(c).containsValue(a), new IllegalStateException());
                state.rota(c).put(b, a);
                return (int) state.pitchesOfDay.values().stream().filter(day -> day.containsValue(a)).count();
            case "release":
                needIndex(a, 5);
                needDay(b);
                need(state.rota(b).containsKey(a), new NoSuchElementException());
                return end(a, b);
            case "setWeather":
                needRange(a, 0, 3);
                int previous = state.weather;
                state.weather = a;
                return previous;
            case "advance":
                needRange(a, 1, 60);
                return pass(a);
            default:
                return script();
        }
    }

    private int end(int pitch, int weekday) {
        int truck = state.rota(weekday).remove(pitch);
        if (state.minutes / 60 % 7 == weekday) {
            sendAway(van(truck));
        }
        return truck;
    }

    private void sendAway(Van van) {
        state.disappointed += van.queue.size();
        van.queue.clear();
        van.minutes = 0;
    }

    private int pass(int minutes) {
        int before = state.served();
        for (int minute = 0; minute < minutes; minute++) {
            List<Van> open = new ArrayList<>();
            for (int truck : state.rotaToday().values()) {
                open.add(van(truck));
            }
            for (int customer = 0; customer < state.weather; customer++) {
                arrive(open);
            }
            for (Van van : open) {
                work(van);
            }
            state.minutes++;
            if (state.minutes % 60 == 0) {
                open.forEach(this::sendAway);
            }
        }
        return state.served() - before;
    }

    private void arrive(List<Van> open) {
        int shortest = 9;
        for (Van van : open) {
            shortest = Math.min(shortest, van.queue.size());
        }
        int wanted = state.arrived % 4;
        state.arrived++;
        for (Van van : open) {
            if (van.queue.size() == shortest && shortest < 9) {
                van.queue.add(wanted);
                return;
            }
        }
        state.lost++;
    }

    private void work(Van van) {
        if (van.queue.isEmpty()) {
            return;
        }
        int dish = van.queue.get(0);
        if (van.minutes == 0 && van.stock.get(dish) == 0) {
            van.queue.remove(0);
            state.disappointed++;
            return;
        }
        van.minutes = van.minutes == 0 ? dish : van.minutes - 1;
        if (van.minutes == 0) {
            van.queue.remove(0);
            van.stock.set(dish, van.stock.get(dish) - 1);
            van.coins += state.prices.get(dish);
            state.sold.set(dish, state.sold.get(dish) + 1);
        }
    }

    private int script() {
        String text = buffer;
        buffer = "";
        if (!hasForm(text)) {
            errorPosition = errorPositionOf(text);
            throw new IllegalArgumentException();
        }
        String[] commands = text.split(";");
        for (int index = 0; index < commands.length; index++) {
            try {
                command(commands[index].split(" "));
            } catch (RuntimeException e) {
                failedCommand = index;
                throw new IllegalStateException();
            }
        }
        return commands.length;
    }

    static boolean hasForm(String script) {
        return SCRIPT.matcher(script).matches();
    }

    /** How many characters, from the first, can continue some script; for a script without the form. */
    static int errorPositionOf(String script) {
        int position = 0;
        while (position < script.length() && canGoOn(script.substring(0, position + 1))) {
            position++;
        }
        return position;
    }

    private static boolean canGoOn(String start) {
        Matcher matcher = SCRIPT.matcher(start);
        return matcher.matches() || matcher.hitEnd();
    }

    private void command(String[] words) {
        List<String> names = List.of("truck", "stock", "price", "permit", "revoke", "assign", "free", "weather", "wait");
        List<String> methods = List.of("addTruck", "addStock", "setPrice", "grantPermit", "revokePermit", "assign",
                "release", "setWeather", "advance");
        int[] numbers = {1, 0, 0};
        for (int index = 1; index < words.length; index++) {
            numbers[index - 1] = Integer.parseInt(words[index]);
        }
        carryOut(methods.get(names.indexOf(words[0])), numbers[0], numbers[1], numbers[2]);
    }

    Object type(int code) {
        needRange(code, 32, 126);
        need(buffer.length() < 60, new IllegalStateException());
        buffer += (char) code;
        return buffer.length();
    }

    Object undo() {
        need(!past.isEmpty(), new NoSuchElementException());
        state = past.pop();
        return past.size();
    }

    Object save() {
        saved = state.copy();
        return state.vans.size();
    }

    Object restore() {
        need(saved != null, new IllegalStateException());
        state = saved.copy();
        past.clear();
        return state.vans.size();
    }

    /** All that can be asked without a change, but for the output text. */
    Object ask(String method, int a, int b) {
        switch (method) {
            case "truckCount":
                return state.vans.size();
            case "stock":
                van(a);
                needIndex(b, 4);
                return van(a).stock.get(b);
            case "coins":
                return van(a).coins;
            case "price":
                needIndex(a, 4);
                return state.prices.get(a);
            case "hasPermit":
                van(a);
                needDay(b);
                return van(a).permits.contains(b);
            case "truckAt":
                needIndex(a, 5);
                needDay(b);
                need(state.rota(b).containsKey(a), new NoSuchElementException());
                return state.rota(b).get(a);
            case "pitchOf":
                van(a);
                needDay(b);
                return state.rota(b).keySet().stream().filter(pitch -> state.rota(b).get(pitch) == a).findFirst().get();
            case "isOpen":
                van(a);
                return state.rotaToday().containsValue(a);
            case "assignments":
            case "assignmentsByTrucks":
                return state.pitchesOfDay.values().stream().mapToInt(TreeMap::size).sum();
            case "firstFreeDay":
                return van(a).permits.stream().sorted()
                        .filter(day -> !state.rota(day).containsValue(a) && state.rota(day).size() < 5).findFirst().get();
            case "firstFreePitch":
                needDay(a);
                return List.of(0, 1, 2, 3, 4).stream().filter(pitch -> !state.rota(a).containsKey(pitch)).findFirst().get();
            default:
                return askMore(method, a, b);
        }
    }

    private Object askMore(String method, int a, int b) {
        switch (method) {
            case "queueLength":
                return van(a).queue.size();
            case "wantedDish":
                van(a);
                need(b >= 0 && b < van(a).queue.size(), new NoSuchElementException());
                return van(a).queue.get(b);
            case "minutesLeft":
                return van(a).minutes;
            case "queueTime":
                int time = van(a).queue.stream().mapToInt(dish -> dish + 1).sum();
                return van(a).minutes == 0 ? time : time - van(a).queue.get(0) - 1 + van(a).minutes;
            case "servedWithin":
                needRange(a, 0, 60);
                State before = state.copy();
                int served = pass(a);
                state = before;
                return served;
            case "truckByCoins":
                need(a >= 0 && a < state.vans.size(), new NoSuchElementException());
                List<Van> ranked = new ArrayList<>(state.vans);
                ranked.sort((one, other) -> one.coins != other.coins ? other.coins - one.coins : sum(other) - sum(one));
                return state.vans.indexOf(ranked.get(a));
            case "day":
                return state.minutes / 60;
            case "minute":
                return state.minutes % 60;
            case "weather":
                return state.weather;
            case "arrivedTotal":
                return state.arrived;
            case "servedTotal":
                return state.served();
            case "disappointedTotal":
                return state.disappointed;
            case "lostTotal":
                return state.lost;
            case "soldPortions":
                needIndex(a, 4);
                return state.sold.get(a);
            case "meanCoins":
                need(!state.vans.isEmpty(), new ArithmeticException());
                return state.vans.stream().mapToInt(van -> van.coins).sum() / (double) state.vans.size();
            case "servedShare":
                need(state.arrived > 0, new ArithmeticException());
                return state.served() / (float) state.arrived;
            case "isConsistent":
                return true;
            case "errorPosition":
                need(errorPosition >= 0, new NoSuchElementException());
                return errorPosition;
            default:
                need(failedCommand >= 0, new NoSuchElementException());
                return failedCommand;
        }
    }

    private static int sum(Van van) {
        return van.stock.stream().mapToInt(portions -> portions).sum();
    }

    Object renderDay(int weekday) {
        needDay(weekday);
        output = "";
        for (int pitch = 0; pitch < 5; pitch++) {
            Integer truck = state.rota(weekday).get(pitch);
            output += truck == null ? "-" : truck;
        }
        return output.length();
    }

    Object renderTruck(int truck) {
        Van van = van(truck);
        output = "t" + truck + ":" + van.stock.toString().replaceAll("[^0-9,]", "") + "$" + van.coins;
        for (int pitch : state.rotaToday().keySet()) {
            if (state.rotaToday().get(pitch) == truck) {
                output += "@" + pitch + "q".repeat(van.queue.size());
            }
        }
        return output.length();
    }

    Object outputAt(int index) {
        needIndex(index, output.length());
        return output.charAt(index);
    }
}
