import java.math.BigInteger;
import java.util.List;

/** The boundary cases of the promises 21 to 28: the questions about what would be. */
final class QuestionEdges {
    private QuestionEdges() {
    }

    static void run() {
        way();
        ifPassed();
        Edge.of("Promise 23", "Returns the turbine of the plan with which at its beginning (the others in their order "
                + "behind it) the least power would be lost in the next 48 hours, of several the one that is earlier "
                + "in the plan now; NONE if the plan is empty.", QuestionEdges::leastPower);
        window();
        Edge.of("Promise 25", "Returns 0 to 500; NONE if there is no such number.", QuestionEdges::hoursOfThePlan);
        Edge.of("Promise 26", "Returns the sum of the numbers of the wind row, as a float, divided by their count; "
                + "8.0f without numbers.", QuestionEdges::meanOfTheRow);
        Edge.of("Promise 27", "Returns count(11), as a double, divided by the sum of count(11) and count(12); 0.0 if "
                + "that is 0.", QuestionEdges::shareOfThePower);
        digest();
    }

    private static void way() {
        Edge.of("Promise 21", "from: 0 to 99", () -> Edge.range(0, 99, Edge.ARGUMENT, Farms::inUse,
                (farm, from) -> farm.way(from, 50)));
        Edge.of("Promise 21", "to: 0 to 99", () -> Edge.range(0, 99, Edge.ARGUMENT, Farms::inUse,
                (farm, to) -> farm.way(50, to)));
        Edge.of("Promise 21", "Returns how many hours.", () -> {
            CraneCampaign farm = new CraneCampaign();
            for (int place = 0; place <= 99; place++) {
                Check.due("a way to where it begins", 0, farm.way(place, place));
                Check.due("way(0, " + place + ")", (place + 4) / 5, farm.way(0, place));
            }
        });
        Edge.of("Promise 21", "Throws IllegalArgumentException if from or to is out of range", () -> {
            CraneCampaign farm = Farms.inUse();
            int[][] wrong = {{-1, 0}, {0, -1}, {100, 99}, {99, 100}, {-1, -1}, {100, 100},
                {Integer.MIN_VALUE, Integer.MAX_VALUE}, {Integer.MAX_VALUE, Integer.MIN_VALUE}};
            for (int[] row : wrong) {
                Edge.refused(farm, "way(" + row[0] + ", " + row[1] + ")", Edge.ARGUMENT, () -> farm.way(row[0], row[1]));
            }
        });
    }

    private static CraneCampaign atTheLastHour() {
        CraneCampaign farm = Farms.withOne();
        for (int i = 0; i < 50; i++) {
            farm.pass(200);
        }
        farm.setFault(0, 4);
        farm.orderBlade(0);
        farm.plan(0, 0);
        return farm;
    }

    private static void ifPassed() {
        Edge.of("Promise 22", "Tells what would be after some hours (the limit of 10000 hours does not matter for this "
                + "and the following questions).", () -> {
            CraneCampaign farm = atTheLastHour();
            Edge.refused(farm, "pass(1) in the last hour", Edge.STATE, () -> farm.pass(1));
            // Two hours of moving, twelve of work; then all is won.
            Check.due("lost after 200 hours", 14 * 8, farm.ifPassed(200, 5));
            Check.due("won after 200 hours", 8 * (10000 + 186), farm.ifPassed(200, 6));
            Check.due("bestFirst", 0, farm.bestFirst());
            Check.due("window", 0, farm.window(0, 24));
            Check.due("doneIn", 14, farm.doneIn());
        });
        Edge.of("Promise 22", "hours: 1 to 200", () -> {
            Edge.range(1, 200, Edge.ARGUMENT, Farms::inUse, (farm, hours) -> farm.ifPassed(hours, 0));
            CraneCampaign farm = Farms.withOne();
            farm.setFault(0, 4);
            Check.due("lost in one hour", 8, farm.ifPassed(1, 5));
            Check.due("lost in 200 hours", 1600, farm.ifPassed(200, 5));
        });
        Edge.of("Promise 22", "what: 0 to 4: the claims by this cause so far; 5: power lost so far; 6: power won so "
                + "far; 7: turbines with a fault; 8: turbines in the plan", () -> {
            CraneCampaign farm = Farms.inUse();
            for (int hours : new int[] {1, 2, 10, 24, 200}) {
                CraneCampaign twin = Farms.inUse();
                twin.pass(hours);
                int[] due = {twin.claims(0), twin.claims(1), twin.claims(2), twin.claims(3), twin.claims(4),
                    twin.count(11), twin.count(12), twin.count(1), twin.count(5)};
                for (int what = 0; what <= 8; what++) {
                    Check.due("ifPassed(" + hours + ", " + what + ")", due[what], farm.ifPassed(hours, what));
                }
            }
            CraneCampaign empty = new CraneCampaign();
            for (int what = 0; what <= 8; what++) {
                Check.due("ifPassed(200, " + what + ") on a new object", 0, empty.ifPassed(200, what));
            }
        });
        Edge.of("Promise 22", "Throws IllegalArgumentException if hours or what is out of range", () -> {
            CraneCampaign farm = Farms.inUse();
            int[][] wrong = {{0, 0}, {201, 0}, {1, -1}, {1, 9}, {0, 9}, {-1, -1}, {Integer.MAX_VALUE, 5},
                {Integer.MIN_VALUE, 5}, {1, Integer.MAX_VALUE}, {1, Integer.MIN_VALUE}};
            for (int[] row : wrong) {
                Edge.refused(farm, "ifPassed(" + row[0] + ", " + row[1] + ")", Edge.ARGUMENT,
                        () -> farm.ifPassed(row[0], row[1]));
            }
        });
    }

    private static void leastPower() {
        Check.due("without turbines", -1, new CraneCampaign().bestFirst());
        CraneCampaign farm = Farms.withTurbines(10);
        farm.setFault(4, 4);
        Check.due("with an empty plan", -1, farm.bestFirst());
        farm.plan(9, 0);
        Check.due("one in the plan", 9, farm.bestFirst());
        farm.plan(3, 1);
        Check.due("of two without a fault the earlier one", 9, farm.bestFirst());
        farm.plan(3, 0);
        Check.due("the one that is earlier now", 3, farm.bestFirst());
        othersBehindIt();
        next48Hours();
        tenInThePlan();
    }

    // Found by a search: with the others in another order (2, 1, 0) the turbine 0 would be the best.
    private static void othersBehindIt() {
        int[][] turbines = {{20, 20, 2}, {40, 10, 1}, {60, 40, 1}};
        CraneCampaign farm = new CraneCampaign();
        farm.set(1, 20);
        farm.set(5, 100);
        for (int t = 0; t < 3; t++) {
            farm.addTurbine(turbines[t][0], 50, turbines[t][1]);
            farm.setFault(t, turbines[t][2]);
            farm.orderBlade(t);
            farm.plan(t, t);
        }
        Check.due("the last one of the plan", 2, farm.bestFirst());
        int[] losses = {260, 296, 255};
        for (int t = 0; t < 3; t++) {
            farm.plan(t, 0);
            Check.due("lost in 48 hours with " + t + " first", losses[t], farm.ifPassed(48, 5));
            farm.undo();
        }
        Check.dueTrue("012 is the plan", Farms.plan(farm).equals("012"));
    }

    // The hour in which the turbine 1 would win again is the hour 48, or the hour 49, which does not count.
    private static void next48Hours() {
        for (int more = 0; more <= 1; more++) {
            CraneCampaign farm = new CraneCampaign();
            farm.addTurbine(20, 50, 1);
            farm.addTurbine(60 + more, 50, 50);
            farm.set(1, 20);
            farm.set(2, 11);
            farm.set(5, 100);
            for (int t = 0; t < 2; t++) {
                farm.setFault(t, 4);
                farm.orderBlade(t);
                farm.plan(t, t);
            }
            Check.due("bestFirst", 1 - more, farm.bestFirst());
        }
    }

    private static void tenInThePlan() {
        CraneCampaign farm = Farms.crowded();
        int best = -1;
        int least = Integer.MAX_VALUE;
        for (int place = 0; place < 10; place++) {
            for (int t = 0; t < 10; t++) {
                if (farm.turbine(t, 6) == place) {
                    farm.plan(t, 0);
                    int lost = farm.ifPassed(48, 5);
                    farm.undo();
                    best = lost < least ? t : best;
                    least = Math.min(least, lost);
                }
            }
        }
        Check.due("the best of ten", best, farm.bestFirst());
    }

    private static void window() {
        Edge.of("Promise 24", "turbine: its number", () -> Edge.turbineNumber(Edge.INDEX,
                (farm, turbine) -> farm.window(turbine, 1)));
        Edge.of("Promise 24", "hours: 1 to 24", () -> Edge.range(1, 24, Edge.ARGUMENT, Farms::inUse,
                (farm, hours) -> farm.window(2, hours)));
        Edge.of("Promise 24", "Returns after how many hours from now so many hours begin, one after the other, in "
                + "which the wind is at most its limit, 0 to 96; NONE if there is none.", () -> {
            windowsOfARow();
            windowsAroundTheRow();
            windowsAtTheLimit();
        });
        Edge.of("Promise 24", "Throws IndexOutOfBoundsException if there is no such turbine", () -> {
            CraneCampaign full = Farms.crowded();
            for (int turbine : new int[] {10, -1, Integer.MIN_VALUE, Integer.MAX_VALUE}) {
                Edge.refused(full, "window(" + turbine + ", 1)", Edge.INDEX, () -> full.window(turbine, 1));
            }
        });
        Edge.of("Promise 24", "Throws IllegalArgumentException if hours is out of range", () -> {
            CraneCampaign farm = Farms.inUse();
            for (int hours : new int[] {0, 25, -1, Integer.MIN_VALUE, Integer.MAX_VALUE}) {
                Edge.refused(farm, "window(0, " + hours + ")", Edge.ARGUMENT, () -> farm.window(0, hours));
            }
        });
    }

    private static CraneCampaign withWinds(String winds) {
        CraneCampaign farm = Farms.withOne();
        Farms.winds(farm, winds);
        return farm;
    }

    // The limit of the turbine is 12.
    private static void windowsOfARow() {
        CraneCampaign farm = withWinds("13,12,13,12*2,13,12*3,13");
        int[] windows = {1, 3, 6, -1};
        for (int hours = 1; hours <= 4; hours++) {
            Check.due("window(0, " + hours + ")", windows[hours - 1], farm.window(0, hours));
        }
        farm.pass(1);
        Check.due("it begins at once", 0, farm.window(0, 1));
        farm.pass(1);
        Check.due("a longer one begins in an hour", 1, farm.window(0, 2));
        farm.pass(5);
        Check.due("what is left of three hours", 0, farm.window(0, 2));
        Check.due("three hours in the next round", 9, farm.window(0, 3));
    }

    private static void windowsAroundTheRow() {
        CraneCampaign farm = withWinds("12*12,13*24,12*12");
        Check.due("12 hours at once", 0, farm.window(0, 12));
        Check.due("13 hours around the end of the row", 36, farm.window(0, 13));
        Check.due("24 hours around the end of the row", 36, farm.window(0, 24));
        farm.pass(37);
        Check.due("23 hours are left", 0, farm.window(0, 23));
        Check.due("24 hours begin in the next round", 47, farm.window(0, 24));
        CraneCampaign shorter = withWinds("12*12,13*25,12*11");
        Check.due("23 hours around the end of the row", 37, shorter.window(0, 23));
        Check.due("24 hours never", -1, shorter.window(0, 24));
        CraneCampaign last = withWinds("13*47,12");
        Check.due("the last one of 48 hours", 47, last.window(0, 1));
        Check.due("no two of them", -1, last.window(0, 2));
    }

    private static void windowsAtTheLimit() {
        for (int hours = 1; hours <= 24; hours++) {
            Check.due("each hour is at the limit", 0, withWinds("12").window(0, hours));
            Check.due("each hour is above the limit", -1, withWinds("13").window(0, hours));
            Check.due("without numbers", 0, Farms.withOne().window(0, hours));
        }
        CraneCampaign low = new CraneCampaign();
        low.addTurbine(1, 149, 1);
        low.addTurbine(2, 160, 1);
        low.set(0, 5);
        Farms.winds(low, "1,0");
        Check.due("the limit 0", 1, low.window(0, 1));
        Check.due("a limit below 0", -1, low.window(1, 1));
        low.set(0, 6);
        Check.due("the limit 1", 0, low.window(0, 24));
        Check.due("the limit 0 of the higher one", 1, low.window(1, 1));
    }

    private static void hoursOfThePlan() {
        Check.due("an empty plan", 0, new CraneCampaign().doneIn());
        CraneCampaign farm = Farms.withOne();
        farm.plan(0, 0);
        Check.due("a plan without faults: the next hour takes them off", 1, farm.doneIn());
        farm.setFault(0, 1);
        Check.due("without a blade", -1, farm.doneIn());
        farm.orderBlade(0);
        Check.due("two hours of way, three of work", 5, farm.doneIn());
        farm.pass(4);
        Check.due("the last hour", 1, farm.doneIn());
        Farms.winds(farm, "13");
        Check.due("with too much wind", -1, farm.doneIn());
        farm.undo();
        farm.pass(1);
        Check.due("the plan is empty again", 0, farm.doneIn());
        longestPlans();
    }

    // A wind that lets work one hour of 42, so that 12 hours of work end 11 * 42 hours after the first one.
    private static void longestPlans() {
        for (int wait = 36; wait <= 39; wait++) {
            CraneCampaign farm = withWinds("13*" + wait + ",12,13*" + (41 - wait));
            farm.set(1, 20);
            farm.set(3, 200);
            farm.setFault(0, 4);
            farm.orderBlade(0);
            farm.plan(0, 0);
            int hours = wait + 1 + 11 * 42;
            Check.due("doneIn of " + hours + " hours", hours <= 500 ? hours : -1, farm.doneIn());
            farm.pass(1);
            Check.due("doneIn an hour later", hours <= 501 ? hours - 1 : -1, farm.doneIn());
        }
    }

    private static void meanIs(String text, float want) {
        CraneCampaign farm = new CraneCampaign();
        Farms.winds(farm, text);
        Check.due("the mean of " + text, Float.floatToIntBits(want), Float.floatToIntBits(farm.meanWind()));
    }

    private static void meanOfTheRow() {
        CraneCampaign farm = new CraneCampaign();
        Check.due("without numbers", Float.floatToIntBits(8.0f), Float.floatToIntBits(farm.meanWind()));
        meanIs("0", 0.0f);
        meanIs("0*48", 0.0f);
        meanIs("30", 30.0f);
        meanIs("30*48", 30.0f);
        meanIs("1,2", 1.5f);
        meanIs("1,0,0", 1.0f / 3.0f);
        meanIs("0*47,1", 1.0f / 48.0f);
        meanIs("30*46,29", 1409.0f / 47.0f);
        Farms.winds(farm, "7");
        farm.undo();
        Check.due("without numbers again", Float.floatToIntBits(8.0f), Float.floatToIntBits(farm.meanWind()));
    }

    private static void shareIs(String of, CraneCampaign farm, double want) {
        Check.due("the share " + of, Double.doubleToLongBits(want), Double.doubleToLongBits(farm.lostShare()));
    }

    private static void shareOfThePower() {
        shareIs("of a new object", new CraneCampaign(), 0.0);
        CraneCampaign farm = Farms.withOne();
        shareIs("without hours", farm, 0.0);
        Farms.winds(farm, "2");
        farm.setFault(0, 4);
        farm.pass(10);
        shareIs("without power", farm, 0.0);
        Farms.winds(farm, "8");
        farm.pass(1);
        shareIs("of what is lost alone", farm, 1.0);
        farm.undo();
        farm.setFault(0, 0);
        farm.pass(1);
        shareIs("of what is won alone", farm, 0.0);
        farm.setFault(0, 1);
        farm.pass(1);
        shareIs("of 2 lost and 14 won", farm, 2.0 / 16.0);
        farm.setFault(0, 4);
        farm.pass(1);
        shareIs("of 10 lost and 14 won", farm, 10.0 / 24.0);
        CraneCampaign least = new CraneCampaign();
        least.addTurbine(1, 50, 2);
        least.setFault(0, 4);
        least.pass(1);
        shareIs("of 1 lost and none won", least, 1.0);
    }

    private static void digest() {
        Edge.of("Promise 28", "The hash starts at 2269.", () -> Check.due("the digest of a new object",
                -1553881265432925300L, new CraneCampaign().digest()));
        Edge.of("Promise 28", "For each value v of the following list, in order, the hash becomes 31 * hash + v, in "
                + "long arithmetic with overflow.", () -> {
            overflows(new CraneCampaign(), "");
            overflows(Farms.crowded(), "30*48,30*48,30*48,30*48,30*48,30*48,30*48,30*48,30*48,30*48,");
        });
        Edge.of("Promise 28", "The values are: count(0) to count(14); the settings 0 to 6; for each turbine its "
                + "properties 0 to 10, and window with 3 hours; for each blade its properties 0 and 1; for each bog "
                + "its properties 0 and 1; the claims by the causes 0 to 4; ifPassed with 24 hours for 0 to 8; "
                + "bestFirst, doneIn; the bits of meanWind (as Float.floatToIntBits) and lostShare (as "
                + "Double.doubleToLongBits); the length of the buffer and each of its character codes.",
                QuestionEdges::valuesOfTheDigest);
    }

    private static void overflows(CraneCampaign farm, String buffer) {
        List<Long> values = Digest.values(farm, buffer);
        BigInteger hash = BigInteger.valueOf(2269);
        for (long value : values) {
            hash = hash.multiply(BigInteger.valueOf(31)).add(BigInteger.valueOf(value));
        }
        Check.dueTrue("a hash far beyond a long", hash.bitLength() > 64);
        Check.due("its lower 64 bits", hash.longValue(), farm.digest());
    }

    private static void valuesOfTheDigest() {
        CraneCampaign empty = new CraneCampaign();
        Check.due("without turbines, blades, bogs, text", Digest.of(empty, ""), empty.digest());
        CraneCampaign crowded = Farms.crowded();
        Check.due("with as many as there can be",
                Digest.of(crowded, "30*48,30*48,30*48,30*48,30*48,30*48,30*48,30*48,30*48,30*48,"), crowded.digest());
        CraneCampaign last = atTheLastHour();
        Check.due("in the last hour", Digest.of(last, ""), last.digest());
        CraneCampaign windows = withWinds("13,12,13,12*2,13,12*3,13,12*4");
        for (int hour = 0; hour < 14; hour++) {
            Check.due("in the hour " + hour, Digest.of(windows, ""), windows.digest());
            windows = withWinds("13,12,13,12*2,13,12*3,13,12*4");
            windows.pass(hour + 1);
        }
        for (int turbines = 1; turbines <= 10; turbines++) {
            for (int fault = 1; fault <= 4; fault++) {
                CraneCampaign farm = Farms.withTurbines(turbines);
                farm.setFault(0, fault);
                farm.pass(1);
                shareIs("of one of " + turbines, farm, fault / (4.0 * turbines));
                Check.due("with this share", Digest.of(farm, ""), farm.digest());
            }
        }
        String[] rows = {"0", "1", "2", "30", "0*47,1", "0,0,1", "7,8", "15,16", "30*47,29", "31,0", "!~"};
        for (String row : rows) {
            CraneCampaign farm = Farms.inUse();
            farm.clearBuffer();
            Farms.write(farm, row);
            Check.due("with the text " + row, Digest.of(farm, row), farm.digest());
            if (farm.firstError() == row.length()) {
                farm.load();
                farm.pass(100);
                Check.due("with the winds " + row, Digest.of(farm, ""), farm.digest());
            }
        }
    }
}
