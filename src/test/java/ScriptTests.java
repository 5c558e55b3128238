import java.util.NoSuchElementException;

/** Promises 43 to 46: the script buffer, and scripts. */
final class ScriptTests {
    private static final Class<IllegalArgumentException> ARGUMENT = IllegalArgumentException.class;
    private static final Class<IllegalStateException> STATE = IllegalStateException.class;
    private static final Class<NoSuchElementException> ELEMENT = NoSuchElementException.class;

    private ScriptTests() {
    }

    static void run() {
        Check.test("promise 43: type", ScriptTests::type);
        Check.test("promise 44: each command does what its method does", ScriptTests::commands);
        Check.test("promise 44: numbers of one and two digits", ScriptTests::numbers);
        Check.test("promise 44: all commands take effect or none", ScriptTests::allOrNone);
        Check.test("promise 44: a script is one change", ScriptTests::oneChange);
        Check.test("promise 44: the buffer is empty afterwards", ScriptTests::bufferIsEmptied);
        Check.test("promise 44: as many commands as fit", ScriptTests::longScripts);
        Check.test("promise 45: errorPosition", ScriptTests::errorPositions);
        Check.test("promise 45: errorPosition stays until the next wrong form", ScriptTests::errorPositionStays);
        Check.test("promise 46: failedCommand", ScriptTests::failedCommand);
        Check.test("promise 46: each command can fail", ScriptTests::eachCanFail);
    }

    private static void type() {
        FoodTruckRota rota = new FoodTruckRota();
        int[] wrong = {0, 10, 31, 127, 128, 255, 256 + 65, 65535};
        for (int code : wrong) {
            Check.fails("type(" + code + ")", ARGUMENT, () -> rota.type((char) code));
        }
        Check.same("type(32)", rota.type(' '), 1);
        Check.same("type(126)", rota.type('~'), 2);
        for (int length = 3; length <= 60; length++) {
            Check.same("type", rota.type('x'), length);
        }
        Check.fails("type", STATE, () -> rota.type('x'));
        Check.fails("type(31)", ARGUMENT, () -> rota.type((char) 31));
        Check.fails("runScript()", ARGUMENT, rota::runScript);
        Check.same("type", rota.type('x'), 1);
    }

    private static void commands() {
        FoodTruckRota rota = new FoodTruckRota();
        Check.same("first", Rotas.run(rota, "truck;truck;stock 1 2 9;price 2 17;permit 1 0;assign 1 4 0"), 6);
        Check.same("second", Rotas.run(rota, "weather 3;wait;permit 0 6;permit 1 5;assign 1 3 5"), 5);
        Check.same("third", Rotas.run(rota, "wait 3"), 1);
        FoodTruckRota same = Rotas.trucks(2);
        same.addStock(1, 2, 9);
        same.setPrice(2, 17);
        same.grantPermit(1, 0);
        same.assign(1, 4, 0);
        same.setWeather(3);
        same.advance(1);
        same.grantPermit(0, 6);
        same.grantPermit(1, 5);
        same.assign(1, 3, 5);
        same.advance(3);
        Check.same("all", Rotas.all(rota), Rotas.all(same));
        Check.same("fourth", Rotas.run(rota, "free 4 0;revoke 1 5;revoke 0 6"), 3);
        same.release(4, 0);
        same.revokePermit(1, 5);
        same.revokePermit(0, 6);
        Check.same("all", Rotas.all(rota), Rotas.all(same));
        Check.same("assignments()", rota.assignments(), 0);
    }

    private static void numbers() {
        FoodTruckRota rota = Rotas.trucks(1);
        Check.same("run", Rotas.run(rota, "stock 0 0 5;stock 0 1 05;stock 0 2 50"), 3);
        Check.same("truck 0", Rotas.truckText(rota, 0), "t0:5,5,50,0$0");
        Check.same("run", Rotas.run(rota, "price 0 01;price 1 20;price 2 9;wait 07;wait 10;wait"), 6);
        Check.same("prices", rota.price(0) + " " + rota.price(1) + " " + rota.price(2), "1 20 9");
        Check.same("minute()", rota.minute(), 18);
        Check.same("run", Rotas.run(rota, "wait 60"), 1);
        Check.same("minute()", rota.minute(), 18);
        Check.same("day()", rota.day(), 1);
        String[] failing = {"wait 0", "wait 00", "wait 61", "wait 99", "stock 0 0 0", "stock 0 0 51", "price 0 21", "price 0 00"};
        for (String script : failing) {
            Check.fails(script, STATE, () -> Rotas.run(rota, script));
        }
    }

    private static void allOrNone() {
        FoodTruckRota rota = Rotas.stocked(1, 9);
        rota.setWeather(3);
        rota.advance(2);
        String before = Rotas.all(rota);
        Check.fails("run", STATE, () -> Rotas.run(rota, "truck;price 0 9;wait 30;weather 0;revoke 0 0;free 0 0"));
        Check.same("failedCommand()", rota.failedCommand(), 5);
        Check.same("all", Rotas.all(rota), before);
        Check.fails("run", ARGUMENT, () -> Rotas.run(rota, "truck;price 0 9;wait 30;weather 0;revoke 0 0;free 0 "));
        Check.same("all", Rotas.all(rota), before);
        rota.undo();
        Check.same("minute()", rota.minute(), 0);
    }

    private static void oneChange() {
        FoodTruckRota rota = new FoodTruckRota();
        Rotas.run(rota, "truck;truck;truck");
        Rotas.run(rota, "permit 0 0;permit 1 0");
        Check.fails("run", STATE, () -> Rotas.run(rota, "permit 2 0;permit 1 0"));
        Check.fails("run", ARGUMENT, () -> Rotas.run(rota, "permit"));
        Check.same("undo()", rota.undo(), 1);
        Check.same("hasPermit(0, 0)", rota.hasPermit(0, 0), false);
        Check.same("truckCount()", rota.truckCount(), 3);
        Check.same("undo()", rota.undo(), 0);
        Check.same("truckCount()", rota.truckCount(), 0);
    }

    private static void bufferIsEmptied() {
        FoodTruckRota rota = new FoodTruckRota();
        Check.same("run", Rotas.run(rota, "truck"), 1);
        Check.same("type", rota.type('t'), 1);
        Check.fails("runScript()", ARGUMENT, rota::runScript);
        Check.same("type", rota.type('t'), 1);
        Check.fails("run", STATE, () -> Rotas.run(rota, "ruck;free 0 0"));
        Check.same("type", rota.type('t'), 1);
        Check.same("run", Rotas.run(rota, "ruck"), 1);
        Check.fails("runScript()", ARGUMENT, rota::runScript);
        Check.same("errorPosition()", rota.errorPosition(), 0);
        Check.same("truckCount()", rota.truckCount(), 2);
    }

    private static void longScripts() {
        FoodTruckRota rota = new FoodTruckRota();
        String eleven = "wait;wait;wait;wait;wait;wait;wait;wait;wait;wait;wait";
        Check.same("12 commands", Rotas.run(rota, eleven + ";wait"), 12);
        Check.same("minute()", rota.minute(), 12);
        Check.same("60 characters", Rotas.run(rota, eleven + ";wait"), 12);
        Check.fails("60 characters", ARGUMENT, () -> Rotas.run(rota, eleven + ";wait;"));
        Check.same("errorPosition()", rota.errorPosition(), 60);
        Check.fails("60 characters", ARGUMENT, () -> Rotas.run(rota, eleven + ";wait "));
        Check.same("errorPosition()", rota.errorPosition(), 60);
        Check.fails("60 characters", ARGUMENT, () -> Rotas.run(rota, eleven + ";truc "));
        Check.same("errorPosition()", rota.errorPosition(), 59);
        Check.same("60 characters", Rotas.run(rota, eleven + ";truck"), 12);
        Check.same("truckCount()", rota.truckCount(), 1);
    }

    private static void errorAt(String script, int position) {
        FoodTruckRota rota = new FoodTruckRota();
        Check.fails("run \"" + script + "\"", ARGUMENT, () -> Rotas.run(rota, script));
        Check.same("errorPosition() of \"" + script + "\"", rota.errorPosition(), position);
        Check.same("truckCount()", rota.truckCount(), 0);
    }

    private static void errorPositions() {
        errorAt("", 0);
        errorAt(" ", 0);
        errorAt(";", 0);
        errorAt("x", 0);
        errorAt("Truck", 0);
        errorAt("t", 1);
        errorAt("truc", 4);
        errorAt("trick", 2);
        errorAt("truck ", 5);
        errorAt("truck 1", 5);
        errorAt("trucks", 5);
        errorAt("truck;", 6);
        errorAt("truck;;", 6);
        errorAt("truck; truck", 6);
        errorAt("truck ;truck", 5);
        errorAt("truck;truk", 9);
        errorAt("p", 1);
        errorAt("pa", 1);
        errorAt("pr", 2);
        errorAt("pe", 2);
        errorAt("pri", 3);
        errorAt("prmit", 2);
        errorAt("perice", 3);
        errorAt("w", 1);
        errorAt("wx", 1);
        errorAt("waither", 4);
        errorAt("weait", 3);
        errorAt("wai", 3);
        errorAt("wait ", 5);
        errorAt("wait ;", 5);
        errorAt("wait  5", 5);
        errorAt("wait5", 4);
        errorAt("wait 5 ", 6);
        errorAt("wait 123", 7);
        errorAt("wait 12;x", 8);
        errorAt("wait -1", 5);
        errorAt("weather", 7);
        errorAt("weather ", 8);
        errorAt("weather 12", 9);
        errorAt("weather;", 7);
        errorAt("stock 0 0", 9);
        errorAt("stock 0 0 ", 10);
        errorAt("stock 0 0;", 9);
        errorAt("stock 00 0 1", 7);
        errorAt("stock 0 00 1", 9);
        errorAt("stock 0 0 123", 12);
        errorAt("stock 0 0 1 ", 11);
        errorAt("stock0", 5);
        errorAt("stock a", 6);
        errorAt("price 0", 7);
        errorAt("price 0 ", 8);
        errorAt("price 0 100", 10);
        errorAt("price 10 1", 7);
        errorAt("permit 0", 8);
        errorAt("permit 0 12", 10);
        errorAt("permit 0 1 1", 10);
        errorAt("revoke 0 12", 10);
        errorAt("revoke", 6);
        errorAt("assign 0 1", 10);
        errorAt("assign 0 1 23", 12);
        errorAt("assign 0 1 2 3", 12);
        errorAt("free 1", 6);
        errorAt("free 1 12", 8);
        errorAt("free 1 /", 7);
        errorAt("free 1 :", 7);
        errorAt("free:", 4);
        errorAt("truck;wait 3,truck", 12);
    }

    private static void errorPositionStays() {
        FoodTruckRota rota = new FoodTruckRota();
        Check.fails("errorPosition()", ELEMENT, rota::errorPosition);
        Rotas.run(rota, "truck");
        Check.fails("errorPosition()", ELEMENT, rota::errorPosition);
        Check.fails("run", STATE, () -> Rotas.run(rota, "free 0 0"));
        Check.fails("errorPosition()", ELEMENT, rota::errorPosition);
        Check.fails("run", ARGUMENT, () -> Rotas.run(rota, "truckx"));
        Rotas.run(rota, "truck;truck");
        Check.fails("run", STATE, () -> Rotas.run(rota, "free 0 0"));
        rota.save();
        rota.restore();
        Rotas.run(rota, "truck");
        rota.undo();
        Check.same("errorPosition()", rota.errorPosition(), 5);
        Check.fails("run", ARGUMENT, () -> Rotas.run(rota, "x"));
        Check.same("errorPosition()", rota.errorPosition(), 0);
    }

    private static void failedCommand() {
        FoodTruckRota rota = new FoodTruckRota();
        Check.fails("failedCommand()", ELEMENT, rota::failedCommand);
        Check.fails("run", ARGUMENT, () -> Rotas.run(rota, "truck;x"));
        Rotas.run(rota, "truck");
        Check.fails("failedCommand()", ELEMENT, rota::failedCommand);
        Check.fails("run", STATE, () -> Rotas.run(rota, "truck;permit 1 0;permit 1 0;permit 1 0"));
        Check.same("failedCommand()", rota.failedCommand(), 2);
        Check.fails("run", ARGUMENT, () -> Rotas.run(rota, "truck;x"));
        Rotas.run(rota, "wait");
        rota.save();
        rota.restore();
        Rotas.run(rota, "wait");
        rota.undo();
        Check.same("failedCommand()", rota.failedCommand(), 2);
        Check.fails("run", STATE, () -> Rotas.run(rota, "wait 0;truck"));
        Check.same("failedCommand()", rota.failedCommand(), 0);
    }

    private static void eachCanFail() {
        String[] failing = {"stock 3 0 1", "stock 0 4 1", "stock 0 0 0", "price 4 1", "price 0 0", "permit 3 0",
            "permit 0 7", "permit 0 0", "revoke 0 7", "revoke 0 1", "assign 0 5 0", "assign 0 0 8", "assign 0 0 1",
            "assign 0 1 0", "assign 1 0 0", "free 5 0", "free 0 7", "free 1 0", "weather 4", "wait 0", "wait 61"};
        for (String script : failing) {
            FoodTruckRota rota = trucksForFailing();
            String before = Rotas.all(rota);
            Check.fails(script, STATE, () -> Rotas.run(rota, "wait;" + script + ";wait 0"));
            Check.same("failedCommand() of " + script, rota.failedCommand(), 1);
            Check.same("all after " + script, Rotas.all(rota), before);
        }
        FoodTruckRota rota = trucksForFailing();
        Check.fails("truck", STATE, () -> Rotas.run(rota, "truck;truck;truck;truck"));
        Check.same("failedCommand()", rota.failedCommand(), 3);
        Check.same("truckCount()", rota.truckCount(), 3);
    }

    private static FoodTruckRota trucksForFailing() {
        FoodTruckRota rota = Rotas.open(1);
        Rotas.run(rota, "truck;truck;permit 1 0");
        return rota;
    }
}
