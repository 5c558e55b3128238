import java.lang.reflect.InvocationTargetException;
import java.lang.reflect.Method;
import java.util.Random;
import java.util.function.Supplier;

/** Long runs of calls on the program and on the model, which have to answer alike. */
final class ModelTests {
    private static final String[] CHANGES = {"addTruck", "addStock", "setPrice", "grantPermit", "revokePermit", "assign",
        "release", "setWeather", "advance"};
    private static final String[] QUESTIONS = {"truckCount", "stock", "coins", "price", "hasPermit", "truckAt", "pitchOf",
        "isOpen", "assignments", "assignmentsByTrucks", "firstFreeDay", "firstFreePitch", "queueLength", "wantedDish",
        "minutesLeft", "queueTime", "servedWithin", "truckByCoins", "day", "minute", "weather", "arrivedTotal",
        "servedTotal", "disappointedTotal", "lostTotal", "soldPortions", "meanCoins", "servedShare", "isConsistent",
        "errorPosition", "failedCommand"};
    private static final int[] WEIGHTS = {2, 5, 1, 4, 1, 6, 1, 1, 4};
    private static final int RUNS = 600;
    private static final int CALLS = 512;

    private final FoodTruckRota rota = new FoodTruckRota();
    private final Model model = new Model();
    private final Random random;
    private final String run;
    private int calls = 0;

    private ModelTests(int seed) {
        random = new Random(seed);
        run = "run " + seed + ": ";
    }

    static void run() {
        Check.test("promises 1 to 49: runs of calls answer as the model does", () -> {
            for (int seed = 0; seed < RUNS; seed++) {
                new ModelTests(seed).go();
            }
        });
    }

    private void go() {
        while (calls < CALLS) {
            int choice = random.nextInt(100);
            if (choice < 40) {
                change();
            } else if (choice < 84) {
                question();
            } else if (choice < 88) {
                script();
            } else if (choice < 93) {
                render();
            } else if (choice < 96) {
                compare("undo", rota::undo, model::undo);
            } else if (choice < 98) {
                compare("save", rota::save, model::save);
            } else if (choice < 99) {
                compare("restore", rota::restore, model::restore);
            } else {
                int code = random.nextInt(140);
                compare("type " + code, () -> rota.type((char) code), () -> model.type(code));
            }
        }
    }

    private void change() {
        int pick = random.nextInt(25);
        int index = 0;
        while (pick >= WEIGHTS[index]) {
            pick -= WEIGHTS[index];
            index++;
        }
        String name = CHANGES[index];
        int[] args = arguments(index);
        compare(name, () -> call(name, args), () -> model.change(name, args[0], args[1], args[2]));
    }

    /** Mostly arguments that can be taken, and now and then one just outside. */
    private int[] arguments(int index) {
        int truck = near(0, Math.max(0, (int) model.ask("truckCount", 0, 0) - 1));
        switch (index) {
            case 1:
                return new int[] {truck, near(0, 3), near(1, 50)};
            case 2:
                return new int[] {near(0, 3), near(1, 20), 0};
            case 3:
            case 4:
                return new int[] {truck, weekday(), 0};
            case 5:
                return new int[] {truck, near(0, 4), weekday()};
            case 6:
                return new int[] {near(0, 4), weekday(), 0};
            case 7:
                return new int[] {near(0, 3), 0, 0};
            default:
                return new int[] {random.nextBoolean() ? near(1, 5) : near(1, 60), 0, 0};
        }
    }

    private int near(int low, int high) {
        if (random.nextInt(25) == 0) {
            return random.nextBoolean() ? low - 1 : high + 1;
        }
        return low + random.nextInt(high - low + 1);
    }

    private int weekday() {
        return random.nextInt(3) == 0 ? near(0, 6) : near(0, 1);
    }

    private void question() {
        String name = QUESTIONS[random.nextInt(QUESTIONS.length)];
        int high = name.equals("servedWithin") ? 60 : 6;
        int[] args = {near(0, high), name.equals("wantedDish") ? near(0, 9) : near(0, 6), 0};
        compare(name, () -> call(name, args), () -> model.ask(name, args[0], args[1]));
    }

    private void render() {
        int index = near(0, 6);
        boolean isDay = random.nextBoolean();
        if (isDay) {
            compare("renderDay", () -> rota.renderDay(index), () -> model.renderDay(index));
        } else {
            compare("renderTruck", () -> rota.renderTruck(index), () -> model.renderTruck(index));
        }
        for (int count = 0; count < 3; count++) {
            int at = near(0, 24);
            compare("outputAt", () -> rota.outputAt(at), () -> model.outputAt(at));
        }
    }

    private void script() {
        StringBuilder text = new StringBuilder(command());
        while (random.nextInt(3) > 0) {
            text.append(';').append(command());
        }
        if (random.nextInt(4) == 0) {
            String signs = "0123456789; trucksopiewamv";
            int at = random.nextInt(text.length());
            if (random.nextBoolean()) {
                text.setCharAt(at, signs.charAt(random.nextInt(signs.length())));
            } else {
                text.setLength(at);
            }
        }
        for (int index = 0; index < text.length() && index < 60; index++) {
            char sign = text.charAt(index);
            compare("type", () -> rota.type(sign), () -> model.type(sign));
        }
        compare("runScript of " + text, rota::runScript, () -> model.change("runScript", 0, 0, 0));
        compare("errorPosition", rota::errorPosition, () -> model.ask("errorPosition", 0, 0));
        compare("failedCommand", rota::failedCommand, () -> model.ask("failedCommand", 0, 0));
    }

    private String command() {
        String truck = " " + Math.abs(arguments(3)[0]);
        String day = " " + Math.abs(weekday());
        switch (random.nextInt(9)) {
            case 0:
                return "truck";
            case 1:
                return "stock" + truck + " " + random.nextInt(4) + " " + Math.max(0, near(1, 50));
            case 2:
                return "price " + random.nextInt(5) + " " + Math.max(0, near(1, 20));
            case 3:
                return "permit" + truck + day;
            case 4:
                return "revoke" + truck + day;
            case 5:
                return "assign" + truck + " " + random.nextInt(6) + day;
            case 6:
                return "free " + random.nextInt(6) + day;
            case 7:
                return "weather " + random.nextInt(5);
            default:
                return random.nextBoolean() ? "wait" : "wait " + Math.max(0, near(1, 60));
        }
    }

    private void compare(String call, Supplier<Object> program, Supplier<Object> due) {
        if (calls >= CALLS) {
            return;
        }
        calls++;
        Check.same(run + "call " + calls + " " + call, answer(program), answer(due));
    }

    private static Object answer(Supplier<Object> call) {
        try {
            return call.get();
        } catch (RuntimeException e) {
            return e.getClass();
        }
    }

    private Object call(String name, int[] args) {
        for (Method method : FoodTruckRota.class.getMethods()) {
            if (method.getName().equals(name)) {
                Object[] given = new Object[method.getParameterCount()];
                for (int index = 0; index < given.length; index++) {
                    given[index] = args[index];
                }
                try {
                    return method.invoke(rota, given);
                } catch (InvocationTargetException e) {
                    throw (RuntimeException) e.getCause();
                } catch (IllegalAccessException e) {
                    throw new AssertionError(e);
                }
            }
        }
        throw new AssertionError("no method " + name);
    }
}
