import java.util.ArrayList;
import java.util.List;

/** The sentences under "Scripts". */
final class ScriptTermsTests {
    private static final Class<IllegalArgumentException> ARGUMENT = IllegalArgumentException.class;
    private static final Class<IllegalStateException> STATE = IllegalStateException.class;
    private static final String HEAD = "Scripts";

    private ScriptTermsTests() {
    }

    static void run() {
        Sentences.test(HEAD, "A script is typed into a buffer of at most 60 characters and then run.",
                ScriptTermsTests::sixtyCharacters);
        runForm();
        Sentences.test(HEAD, "The commands stand for the methods addTruck, addStock, setPrice, grantPermit, revokePermit,"
                + " assign, release, setWeather and advance with the numbers as arguments in the order of the parameters",
                ScriptTermsTests::commandsAreMethods);
        Sentences.test(HEAD, "wait without a number passes 1 minute", ScriptTermsTests::waitAlone);
        Sentences.test(HEAD, "The commands are executed in order", ScriptTermsTests::executedInOrder);
        Sentences.test(HEAD, "either all of them take effect or none", ScriptTermsTests::allOrNone);
        Sentences.test(HEAD, "either all of them take effect or none", ScriptTermsTests::noneLater);
        Sentences.test(HEAD, "The error position of a script that does not have this form is the index of the first character"
                + " that cannot continue any script of this form", ScriptTermsTests::firstWrongCharacter);
        Sentences.test(HEAD, "or the length of the script if every character can and the end comes too early",
                ScriptTermsTests::endTooEarly);
        Sentences.test(HEAD, "It has the form", ScriptTermsTests::oneCharacterOff);
    }

    private static void runForm() {
        Sentences.test(HEAD, "`script = command { \";\" command`}", ScriptTermsTests::repetitions);
        Sentences.test(HEAD, "\"truck\"", () -> formOf("truck", 0, false));
        Sentences.test(HEAD, "\"stock \" digit \" \" digit \" \" number", () -> formOf("stock", 3, true));
        Sentences.test(HEAD, "\"price \" digit \" \" number", () -> formOf("price", 2, true));
        Sentences.test(HEAD, "\"permit \" digit \" \" digit", () -> formOf("permit", 2, false));
        Sentences.test(HEAD, "\"revoke \" digit \" \" digit", () -> formOf("revoke", 2, false));
        Sentences.test(HEAD, "\"assign \" digit \" \" digit \" \" digit", () -> formOf("assign", 3, false));
        Sentences.test(HEAD, "\"free \" digit \" \" digit", () -> formOf("free", 2, false));
        Sentences.test(HEAD, "\"weather \" digit", () -> formOf("weather", 1, false));
        Sentences.test(HEAD, "\"wait\" [ \" \" number ]", ScriptTermsTests::optionalNumber);
        Sentences.test(HEAD, "`number = digit [ digit ]`", ScriptTermsTests::numbers);
        Sentences.test(HEAD, "braces mean zero or more repetitions, brackets an optional part", ScriptTermsTests::repetitions);
    }

    /** The script has the form, whether its commands succeed or not. */
    private static void isTaken(String script) {
        FoodTruckRota rota = new FoodTruckRota();
        try {
            Rotas.run(rota, script);
        } catch (IllegalStateException e) {
            Check.same("a command of \"" + script + "\" failed", rota.failedCommand() >= 0, true);
        } catch (IllegalArgumentException e) {
            Check.same("\"" + script + "\" errs at", rota.errorPosition(), "nowhere");
        }
    }

    private static void errsAt(String script, int position) {
        FoodTruckRota rota = Rotas.trucks(2);
        Check.fails("run \"" + script + "\"", ARGUMENT, () -> Rotas.run(rota, script));
        Check.same("errorPosition() of \"" + script + "\"", rota.errorPosition(), position);
        Check.same("truckCount()", rota.truckCount(), 2);
    }

    private static void sixtyCharacters() {
        FoodTruckRota rota = new FoodTruckRota();
        String script = "truck" + ";wait".repeat(11);
        Rotas.typeAll(rota, script.substring(0, 59));
        Check.same("the 60th character", rota.type('t'), 60);
        Check.fails("the 61st character", STATE, () -> rota.type(';'));
        Check.same("runScript()", rota.runScript(), 12);
        Check.same("minute()", rota.minute(), 11);
        Check.same("truckCount()", rota.truckCount(), 1);
        FoodTruckRota none = new FoodTruckRota();
        Check.fails("runScript() of nothing", ARGUMENT, none::runScript);
        Check.same("errorPosition()", none.errorPosition(), 0);
    }

    /** The word with so many arguments, all of one digit, in front of a second command and alone. */
    private static void formOf(String word, int arguments, boolean endsWithNumber) {
        for (char digit : new char[] {'0', '9'}) {
            isTaken(word + (" " + digit).repeat(arguments));
            isTaken(word + (" " + digit).repeat(arguments) + ";wait");
        }
        for (int given = 0; given < arguments; given++) {
            String start = word + " 1".repeat(given);
            errsAt(start, start.length());
            errsAt(start + ";", start.length());
            errsAt(start + " ", start.length() + 1);
            errsAt(start + " ;", start.length() + 1);
            errsAt(start + "  1", start.length() + 1);
            for (char wrong : new char[] {'/', ':', 'x', '-', '~'}) {
                errsAt(start + wrong, start.length());
                errsAt(start + " " + wrong, start.length() + 1);
            }
            boolean canHaveTwo = endsWithNumber && given == arguments - 1;
            if (canHaveTwo) {
                isTaken(start + " 12");
                errsAt(start + " 123", start.length() + 3);
            } else {
                errsAt(start + " 12", start.length() + 2);
            }
        }
        String whole = word + " 1".repeat(arguments);
        for (String more : new String[] {" ", " 1", "x", ",", "/", ":"}) {
            errsAt(whole + more, whole.length());
        }
        errsAt(whole + ";", whole.length() + 1);
        errsAt(whole + ";;", whole.length() + 1);
        errsAt(whole + "; ", whole.length() + 1);
        errsAt(" " + whole, 0);
        errsAt(";" + whole, 0);
        errsAt(word.toUpperCase() + whole.substring(word.length()), 0);
        errsAt(word.substring(0, word.length() - 1) + whole.substring(word.length()), word.length() - 1);
    }

    private static void optionalNumber() {
        isTaken("wait");
        isTaken("wait;wait");
        isTaken("wait 1");
        isTaken("wait 60;wait");
        errsAt("wait ", 5);
        errsAt("wait ;wait", 5);
        errsAt("wait;", 5);
        errsAt("wait  1", 5);
        errsAt("wait1", 4);
        errsAt("wait 1 ", 6);
        errsAt("wait 1 1", 6);
        errsAt("wait 123", 7);
        errsAt("wait /", 5);
        errsAt("wait :", 5);
        errsAt("wait 1/", 6);
        errsAt("wait 1:", 6);
        errsAt("waits", 4);
        errsAt("wai", 3);
    }

    private static void numbers() {
        FoodTruckRota rota = Rotas.trucks(1);
        Check.same("one digit and two", Rotas.run(rota, "stock 0 0 9;stock 0 1 10;stock 0 2 09;stock 0 3 01"), 4);
        Check.same("truck 0", Rotas.truckText(rota, 0), "t0:9,10,9,1$0");
        Check.same("run", Rotas.run(rota, "price 0 1;price 1 20;price 2 05;wait 60"), 4);
        Check.same("price(1)", rota.price(1), 20);
        Check.same("day()", rota.day(), 1);
        for (String refused : new String[] {"stock 0 0 0", "stock 0 0 00", "stock 0 0 51", "stock 0 0 99", "price 0 0",
            "price 0 00", "price 0 21", "price 0 99", "wait 0", "wait 00", "wait 61", "wait 99"}) {
            Check.fails(refused, STATE, () -> Rotas.run(rota, refused));
        }
        errsAt("stock 0 0 100", 12);
        errsAt("price 0 010", 10);
        errsAt("wait 060", 7);
    }

    private static void repetitions() {
        FoodTruckRota rota = new FoodTruckRota();
        Check.same("no repetition", Rotas.run(rota, "wait"), 1);
        for (int repeated = 1; repeated <= 11; repeated++) {
            Check.same(repeated + " repetitions", Rotas.run(rota, "wait" + ";wait".repeat(repeated)), repeated + 1);
        }
        Check.same("day() and minute()", rota.day() + " " + rota.minute(), "1 18");
        errsAt("", 0);
        errsAt(";", 0);
        errsAt("wait;", 5);
        errsAt("wait;;wait", 5);
        errsAt("wait,wait", 4);
        errsAt("wait" + ";wait".repeat(11) + ";", 60);
    }

    /** The call and the command leave the same behind; the command on a busy square after the "truc" of its buffer. */
    private static void same(String command, Refusals.Call method) {
        FoodTruckRota called = Rotas.busy();
        called.addTruck();
        method.on(called, 0);
        FoodTruckRota typed = Rotas.busy();
        Check.same("run " + command, Rotas.run(typed, "k;" + command), 1 + command.split(";").length);
        Check.same("all after " + command, Rotas.all(typed), Rotas.all(called));
        Check.same(command + " changes something", Rotas.all(called).equals(Rotas.all(Rotas.busy())), false);
    }

    private static void commandsAreMethods() {
        same("truck", (rota, x) -> rota.addTruck());
        same("stock 1 2 49", (rota, x) -> rota.addStock(1, 2, 49));
        same("stock 3 0 1", (rota, x) -> rota.addStock(3, 0, 1));
        same("price 1 20", (rota, x) -> rota.setPrice(1, 20));
        same("price 3 2", (rota, x) -> rota.setPrice(3, 2));
        same("permit 2 6", (rota, x) -> rota.grantPermit(2, 6));
        same("revoke 1 6", (rota, x) -> rota.revokePermit(1, 6));
        same("revoke 0 0", (rota, x) -> rota.revokePermit(0, 0));
        same("permit 2 3;assign 2 4 3", (rota, x) -> Rotas.permitAndAssign(rota, 2, 4, 3));
        same("permit 2 0;assign 2 1 0", (rota, x) -> Rotas.permitAndAssign(rota, 2, 1, 0));
        same("free 3 0", (rota, x) -> rota.release(3, 0));
        same("free 4 6", (rota, x) -> rota.release(4, 6));
        same("weather 0", (rota, x) -> rota.setWeather(0));
        same("weather 2", (rota, x) -> rota.setWeather(2));
        same("wait 1", (rota, x) -> rota.advance(1));
        same("wait 60", (rota, x) -> rota.advance(60));
    }

    private static void waitAlone() {
        same("wait", (rota, x) -> rota.advance(1));
        FoodTruckRota rota = new FoodTruckRota();
        Check.same("run", Rotas.run(rota, "wait 9;wait;wait 30;wait"), 4);
        Check.same("minute()", rota.minute(), 41);
    }

    private static void executedInOrder() {
        FoodTruckRota rota = new FoodTruckRota();
        Check.fails("the second is needed for the first", STATE, () -> Rotas.run(rota, "stock 0 0 9;truck"));
        Check.same("failedCommand()", rota.failedCommand(), 0);
        Check.same("the first is needed for the second", Rotas.run(rota, "truck;stock 0 0 9"), 2);
        Check.same("run", Rotas.run(rota, "permit 0 0;assign 0 0 0;wait;revoke 0 0;permit 0 0"), 5);
        Check.same("all", Rotas.truckText(rota, 0) + Rotas.dayText(rota, 0), "t0:8,0,0,0$5-----");
        Check.same("run", Rotas.run(rota, "price 0 7;price 0 8;weather 3;weather 2"), 4);
        Check.same("price(0) and weather()", rota.price(0) + " " + rota.weather(), "8 2");
    }

    private static void allOrNone() {
        String[] failing = {"free 0 1", "wait;free 0 1", "free 0 0;free 0 1;wait", "wait;".repeat(9) + "free 0 1"};
        int[] positions = {0, 1, 1, 9};
        for (int index = 0; index < failing.length; index++) {
            String script = failing[index];
            FoodTruckRota rota = Rotas.busy();
            Check.fails("the buffer of before", ARGUMENT, rota::runScript);
            String before = Rotas.all(rota);
            Check.fails(script, STATE, () -> Rotas.run(rota, script));
            Check.same("failedCommand() of " + script, rota.failedCommand(), positions[index]);
            Check.same("all after " + script, Rotas.all(rota), before);
            Check.same("undo()", rota.undo(), 7);
        }
        FoodTruckRota rota = Rotas.busy();
        Check.same("all take effect", Rotas.run(rota, "k;price 0 1;price 1 2;price 2 3;price 3 4;free 0 0"), 6);
        Check.same("prices", rota.price(0) + " " + rota.price(1) + " " + rota.price(2) + " " + rota.price(3), "1 2 3 4");
        Check.same("day 0", Rotas.dayText(rota, 0), "---1-");
        Check.same("truckCount()", rota.truckCount(), 4);
    }

    /** A script begins with the present state, whatever a refused script, a prediction or an undo has tried before. */
    private static void noneLater() {
        FoodTruckRota plain = Rotas.busy();
        Rotas.run(plain, "k;weather 2");
        String due = Rotas.all(plain);
        FoodTruckRota failed = Rotas.busy();
        Check.fails("a failing script", STATE, () -> Rotas.run(failed, "k;price 0 9;wait 30;free 2 2"));
        Check.same("run after a failing script", Rotas.run(failed, "truck;weather 2"), 2);
        Check.same("all after a failing script", Rotas.all(failed), due);
        FoodTruckRota predicted = Rotas.busy();
        predicted.servedWithin(60);
        Check.same("run after a prediction", Rotas.run(predicted, "k;weather 2"), 2);
        Check.same("all after a prediction", Rotas.all(predicted), due);
        FoodTruckRota undone = Rotas.busy();
        undone.advance(60);
        undone.undo();
        Check.same("run after an undo", Rotas.run(undone, "k;weather 2"), 2);
        Check.same("all after an undo", Rotas.all(undone), due);
        FoodTruckRota restored = Rotas.busy();
        restored.save();
        restored.advance(60);
        restored.restore();
        Check.same("run after restore", Rotas.run(restored, "k;weather 2"), 2);
        Check.same("all after restore", Rotas.all(restored), due);
    }

    private static void firstWrongCharacter() {
        errsAt("x", 0);
        errsAt("1", 0);
        errsAt(" truck", 0);
        errsAt("tx", 1);
        errsAt("trux", 3);
        errsAt("truckx", 5);
        errsAt("stack", 2);
        errsAt("px", 1);
        errsAt("prx", 2);
        errsAt("pex", 2);
        errsAt("wx", 1);
        errsAt("wex", 2);
        errsAt("wax", 2);
        errsAt("weait", 3);
        errsAt("waather", 2);
        errsAt("permice", 5);
        errsAt("truck;x", 6);
        errsAt("wait 60;truck;free 0 x;truck", 21);
        errsAt("wait;x;y;z", 5);
        errsAt("truck;wait" + ";wait".repeat(9) + ";wai~", 59);
        errsAt("~" + ";wait".repeat(11), 0);
    }

    private static void endTooEarly() {
        errsAt("", 0);
        String whole = "stock 0 0 1;free 0 0;weather 2;permit 0 0";
        List<String> commands = List.of("stock 0 0 1", "free 0 0", "weather 2", "permit 0 0");
        List<Integer> ends = new ArrayList<>();
        int end = -1;
        for (String command : commands) {
            end += 1 + command.length();
            ends.add(end);
        }
        for (int length = 0; length <= whole.length(); length++) {
            if (ends.contains(length)) {
                isTaken(whole.substring(0, length));
            } else {
                errsAt(whole.substring(0, length), length);
            }
        }
        errsAt("wait" + ";wait".repeat(10) + ";wait ", 60);
        errsAt("wait" + ";wait".repeat(10) + ";free", 59);
    }

    /** Each script that is one character away from a right one: one more, one less, or another. */
    private static void oneCharacterOff() {
        String[] right = {"truck", "stock 0 0 10", "price 0 1", "permit 0 1", "revoke 0 1", "assign 0 0 1", "free 0 1",
            "weather 2", "wait", "wait 5", "wait 60;truck"};
        int tried = 0;
        for (String script : right) {
            for (int at = 0; at <= script.length(); at++) {
                String start = script.substring(0, at);
                for (char sign = 32; sign <= 126; sign++) {
                    reads(start + sign + script.substring(at));
                    if (at < script.length()) {
                        reads(start + sign + script.substring(at + 1));
                    }
                    tried++;
                }
                if (at < script.length()) {
                    reads(start + script.substring(at + 1));
                }
            }
        }
        Check.same("tried enough", tried > 10_000, true);
    }

    private static void reads(String script) {
        if (Model.hasForm(script)) {
            isTaken(script);
        } else {
            errsAt(script, Model.errorPositionOf(script));
        }
    }
}
