/** Squares that many tests start from, and longer ways of asking them. */
final class Rotas {
    private Rotas() {
    }

    /** Trucks without stock and permits. */
    static FoodTruckRota trucks(int number) {
        FoodTruckRota rota = new FoodTruckRota();
        add(rota, number);
        return rota;
    }

    /** Trucks that stand on day 0, each on the pitch of its own index, without stock. */
    static FoodTruckRota open(int number) {
        FoodTruckRota rota = trucks(number);
        for (int truck = 0; truck < number; truck++) {
            rota.grantPermit(truck, 0);
            rota.assign(truck, truck, 0);
        }
        return rota;
    }

    /** Trucks as open(number) makes them, with so many portions of each dish. */
    static FoodTruckRota stocked(int number, int portions) {
        FoodTruckRota rota = open(number);
        for (int truck = 0; truck < number; truck++) {
            for (int dish = 0; dish < 4; dish++) {
                rota.addStock(truck, dish, portions);
            }
        }
        return rota;
    }

    /**
     * A square in the middle of day 0 with something in every place that a refused call could spoil. It has 3 trucks:
     * truck 0 stands on pitch 0, truck 1 on pitch 3 and, on day 6, on pitch 4, and truck 2 has no permit.
     * The script buffer holds "truc".
     */
    static FoodTruckRota busy() {
        FoodTruckRota rota = trucks(2);
        rota.setPrice(3, 11);
        rota.save();
        rota.addTruck();
        permitAndAssign(rota, 0, 0, 0);
        permitAndAssign(rota, 1, 3, 0);
        permitAndAssign(rota, 1, 4, 6);
        rota.addStock(0, 0, 9);
        rota.addStock(0, 3, 50);
        rota.addStock(1, 1, 50);
        rota.setWeather(3);
        Check.fails("a command that fails", IllegalStateException.class, () -> run(rota, "truck;free 2 2"));
        Check.fails("a wrong form", IllegalArgumentException.class, () -> run(rota, "wait x"));
        rota.advance(4);
        rota.renderTruck(1);
        typeAll(rota, "truc");
        return rota;
    }

    static void add(FoodTruckRota rota, int number) {
        for (int truck = 0; truck < number; truck++) {
            rota.addTruck();
        }
    }

    /** A truck with so many customers, 3 to 9, in its queue; the first wants dish 3, which is being prepared. */
    static FoodTruckRota queueing(int customers) {
        FoodTruckRota rota = trucks(1);
        rota.setWeather(3);
        rota.advance(1);
        permitAndAssign(rota, 0, 0, 0);
        rota.addStock(0, 3, 9);
        rota.advance(customers / 3);
        rota.setWeather(customers % 3);
        if (customers % 3 > 0) {
            rota.advance(1);
        }
        return rota;
    }

    static void permitAll(FoodTruckRota rota, int truck) {
        for (int weekday = 0; weekday < 7; weekday++) {
            rota.grantPermit(truck, weekday);
        }
    }

    static void permitAndAssign(FoodTruckRota rota, int truck, int pitch, int weekday) {
        rota.grantPermit(truck, weekday);
        rota.assign(truck, pitch, weekday);
    }

    static void typeAll(FoodTruckRota rota, String script) {
        for (int index = 0; index < script.length(); index++) {
            rota.type(script.charAt(index));
        }
    }

    static int run(FoodTruckRota rota, String script) {
        typeAll(rota, script);
        return rota.runScript();
    }

    static String dayText(FoodTruckRota rota, int weekday) {
        return text(rota, rota.renderDay(weekday));
    }

    static String truckText(FoodTruckRota rota, int truck) {
        return text(rota, rota.renderTruck(truck));
    }

    static String text(FoodTruckRota rota, int length) {
        StringBuilder text = new StringBuilder();
        for (int index = 0; index < length; index++) {
            text.append(rota.outputAt(index));
        }
        return text.toString();
    }

    static String queue(FoodTruckRota rota, int truck) {
        StringBuilder text = new StringBuilder();
        for (int position = 0; position < rota.queueLength(truck); position++) {
            text.append(rota.wantedDish(truck, position));
        }
        return text.toString();
    }

    /** Everything that undo and the snapshot cover, as one text. */
    static String all(FoodTruckRota rota) {
        StringBuilder text = new StringBuilder();
        text.append(rota.day()).append('/').append(rota.minute()).append('/').append(rota.weather());
        text.append(' ').append(rota.arrivedTotal()).append('=').append(rota.servedTotal());
        text.append('+').append(rota.disappointedTotal()).append('+').append(rota.lostTotal());
        for (int dish = 0; dish < 4; dish++) {
            text.append(' ').append(rota.price(dish)).append('x').append(rota.soldPortions(dish));
        }
        for (int truck = 0; truck < rota.truckCount(); truck++) {
            text.append(" [").append(rota.coins(truck)).append(' ').append(rota.minutesLeft(truck)).append(' ');
            text.append(queue(rota, truck)).append(' ').append(rota.isOpen(truck) ? 'o' : 'c');
            for (int dish = 0; dish < 4; dish++) {
                text.append(' ').append(rota.stock(truck, dish));
            }
            text.append(' ');
            for (int weekday = 0; weekday < 7; weekday++) {
                text.append(rota.hasPermit(truck, weekday) ? 'p' : '-');
            }
            text.append(']');
        }
        for (int weekday = 0; weekday < 7; weekday++) {
            text.append(' ');
            for (int pitch = 0; pitch < 5; pitch++) {
                try {
                    text.append(rota.truckAt(pitch, weekday));
                } catch (java.util.NoSuchElementException e) {
                    text.append('-');
                }
            }
        }
        return text.toString();
    }
}
