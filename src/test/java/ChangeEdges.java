/** The boundary cases of the promises 1 to 5: a new object, addTurbine, setFault, setBog, set. */
final class ChangeEdges {
    private static final int[] LOWEST = {5, 1, 1, 1, 0, 1, 0};
    private static final int[] HIGHEST = {25, 20, 12, 200, 10, 100, 50};

    private ChangeEdges() {
    }

    static void run() {
        Edge.of("Promise 1", "Creates a farm without turbines, bogs and blades, with an empty buffer.",
                ChangeEdges::newObject);
        addTurbine();
        setFault();
        setBog();
        set();
    }

    private static void newObject() {
        CraneCampaign farm = new CraneCampaign();
        Check.dueTrue("the counts " + Farms.counts(farm), Farms.counts(farm).equals("0,0,0,8,0,0,-1,0,0,-1,0,0,0,0,0"));
        Check.due("the first error of the empty buffer", 0, farm.firstError());
        Edge.refused(farm, "turbine(0, 0)", Edge.INDEX, () -> farm.turbine(0, 0));
        Edge.refused(farm, "bog(0, 0)", Edge.INDEX, () -> farm.bog(0, 0));
        Edge.refused(farm, "blade(0, 0)", Edge.INDEX, () -> farm.blade(0, 0));
        Edge.refused(farm, "undo", Edge.STATE, () -> farm.undo());
        Edge.refused(farm, "load of the empty buffer", Edge.ARGUMENT, () -> farm.load());
        for (int cause = 0; cause < 5; cause++) {
            Check.due("claims(" + cause + ")", 0, farm.claims(cause));
        }
        Check.due("the length of the buffer", 0, farm.clearBuffer());
    }

    private static void addTurbine() {
        Edge.of("Promise 2", "Adds a turbine without a fault.", () -> {
            CraneCampaign farm = Farms.inUse();
            int faults = farm.count(1);
            farm.addTurbine(99, 160, 50);
            int[] properties = {99, 160, 50, 0, 0, 10, -1, 0, 0, 0};
            for (int what = 0; what < 10; what++) {
                Check.due("turbine(3, " + what + ")", properties[what], farm.turbine(3, what));
            }
            Check.due("faults", faults, farm.count(1));
        });
        Edge.of("Promise 2", "Undoable.", () -> {
            Edge.undoable(farm -> farm.addTurbine(50, 50, 1));
            CraneCampaign farm = Farms.inUse();
            farm.addTurbine(50, 160, 50);
            farm.setFault(3, 4);
            farm.pass(3);
            farm.undo();
            farm.undo();
            farm.undo();
            Edge.refused(farm, "the turbine that is undone", Edge.INDEX, () -> farm.turbine(3, 0));
            farm.addTurbine(50, 50, 1);
            int[] properties = {50, 50, 1, 0, 0, 14, -1, 0, 0, 0};
            for (int what = 0; what < 10; what++) {
                Check.due("nothing is left of it: turbine(3, " + what + ")", properties[what], farm.turbine(3, what));
            }
        });
        Edge.of("Promise 2", "place: 1 to 99", () -> Edge.range(1, 99, Edge.ARGUMENT, CraneCampaign::new,
                (farm, place) -> farm.addTurbine(place, 50, 1)));
        Edge.of("Promise 2", "height: 50 to 160", () -> Edge.range(50, 160, Edge.ARGUMENT, CraneCampaign::new,
                (farm, height) -> farm.addTurbine(1, height, 1)));
        Edge.of("Promise 2", "rate: 1 to 50", () -> Edge.range(1, 50, Edge.ARGUMENT, CraneCampaign::new,
                (farm, rate) -> farm.addTurbine(1, 50, rate)));
        Edge.of("Promise 2", "Returns its number.", () -> {
            CraneCampaign farm = new CraneCampaign();
            for (int i = 0; i < 10; i++) {
                Check.due("the number", i, farm.addTurbine(50 - i, 50, 1));
            }
        });
        Edge.of("Promise 2", "Throws IllegalArgumentException if an argument is out of range", () -> {
            CraneCampaign farm = Farms.inUse();
            int[][] wrong = {{0, 50, 1}, {100, 50, 1}, {1, 49, 1}, {1, 161, 1}, {1, 50, 0}, {1, 50, 51}, {0, 49, 0},
                {100, 161, 51}, {-1, -1, -1}};
            for (int[] row : wrong) {
                Edge.refused(farm, "addTurbine", Edge.ARGUMENT, () -> farm.addTurbine(row[0], row[1], row[2]));
            }
        });
        Edge.of("Promise 2", "Throws IllegalStateException if there are 10 turbines, or one at this place", () -> {
            CraneCampaign farm = Farms.withTurbines(9);
            for (int t = 0; t < 9; t++) {
                int place = farm.turbine(t, 0);
                Edge.refused(farm, "the place of turbine " + t, Edge.STATE, () -> farm.addTurbine(place, 50, 1));
            }
            Check.due("the tenth", 9, farm.addTurbine(99, 50, 1));
            Edge.refused(farm, "the place of the tenth", Edge.STATE, () -> farm.addTurbine(99, 50, 1));
            Edge.refused(farm, "the eleventh", Edge.STATE, () -> farm.addTurbine(1, 50, 1));
        });
    }

    private static void setFault() {
        Edge.of("Promise 3", "Makes a fault; the age becomes 0.", () -> {
            CraneCampaign farm = Farms.withTurbines(3);
            for (int fault = 0; fault <= 4; fault++) {
                farm.setFault(2, 1);
                farm.pass(5);
                Check.due("the age before", 5, farm.turbine(2, 4));
                farm.setFault(2, fault);
                Check.due("the fault", fault, farm.turbine(2, 3));
                Check.due("the age", 0, farm.turbine(2, 4));
            }
        });
        Edge.of("Promise 3", "Undoable.", () -> Edge.undoable(farm -> farm.setFault(2, 4)));
        Edge.of("Promise 3", "turbine: its number", () -> Edge.turbineNumber(Edge.INDEX,
                (farm, turbine) -> farm.setFault(turbine, 1)));
        Edge.of("Promise 3", "fault: 0 to 4", () -> Edge.range(0, 4, Edge.ARGUMENT, Farms::inUse,
                (farm, fault) -> farm.setFault(1, fault)));
        Edge.of("Promise 3", "Returns the previous fault.", () -> {
            CraneCampaign farm = Farms.withOne();
            int[] faults = {0, 4, 4, 1, 3, 0, 0};
            for (int i = 1; i < faults.length; i++) {
                Check.due("the fault before", faults[i - 1], farm.setFault(0, faults[i]));
            }
        });
        Edge.of("Promise 3", "Throws IndexOutOfBoundsException if there is no such turbine", () -> {
            CraneCampaign full = Farms.crowded();
            Check.due("the last of ten", 2, full.setFault(9, 0));
            Edge.refused(full, "setFault(10, 0)", Edge.INDEX, () -> full.setFault(10, 0));
            CraneCampaign undone = Farms.withOne();
            undone.undo();
            Edge.refused(undone, "a turbine that is undone", Edge.INDEX, () -> undone.setFault(0, 0));
        });
        Edge.of("Promise 3", "Throws IllegalArgumentException if fault is out of range", () -> {
            CraneCampaign farm = Farms.inUse();
            for (int fault : new int[] {-1, 5, Integer.MIN_VALUE, Integer.MAX_VALUE}) {
                Edge.refused(farm, "setFault(0, " + fault + ")", Edge.ARGUMENT, () -> farm.setFault(0, fault));
            }
        });
    }

    private static CraneCampaign withSixBogs() {
        CraneCampaign farm = new CraneCampaign();
        for (int i = 0; i < 6; i++) {
            farm.setBog(60 - 10 * i, 1 + i);
        }
        return farm;
    }

    private static void setBog() {
        Edge.of("Promise 4", "Adds a bog, or changes the need of the bog at this place; with the need 0 it is gone.",
                ChangeEdges::bogIsGone);
        Edge.of("Promise 4", "Undoable.", () -> {
            Edge.undoable(farm -> farm.setBog(90, 9));
            Edge.undoable(farm -> farm.setBog(15, 0));
            Edge.undoable(farm -> farm.setBog(40, 50));
        });
        Edge.of("Promise 4", "place: 1 to 99", () -> Edge.range(1, 99, Edge.ARGUMENT, CraneCampaign::new,
                (farm, place) -> farm.setBog(place, 1)));
        Edge.of("Promise 4", "need: 0 to 50", () -> Edge.range(0, 50, Edge.ARGUMENT, CraneCampaign::new,
                (farm, need) -> farm.setBog(1, need)));
        Edge.of("Promise 4", "Returns how many bogs there are then.", () -> {
            CraneCampaign farm = new CraneCampaign();
            int[][] calls = {{5, 0, 0}, {5, 1, 1}, {5, 2, 1}, {6, 1, 2}, {7, 0, 2}, {5, 0, 1}, {5, 0, 1}, {6, 0, 0}};
            for (int[] row : calls) {
                Check.due("setBog(" + row[0] + ", " + row[1] + ")", row[2], farm.setBog(row[0], row[1]));
            }
        });
        Edge.of("Promise 4", "Throws IllegalArgumentException if an argument is out of range", () -> {
            CraneCampaign farm = withSixBogs();
            int[][] wrong = {{0, 0}, {100, 0}, {10, -1}, {10, 51}, {0, 51}, {100, -1}};
            for (int[] row : wrong) {
                Edge.refused(farm, "setBog", Edge.ARGUMENT, () -> farm.setBog(row[0], row[1]));
            }
        });
        Edge.of("Promise 4", "Throws IllegalStateException if there are 6 bogs, none at this place, and need is not 0",
                () -> {
            CraneCampaign farm = withSixBogs();
            Edge.refused(farm, "a seventh bog", Edge.STATE, () -> farm.setBog(35, 1));
            Edge.refused(farm, "a seventh bog", Edge.STATE, () -> farm.setBog(99, 50));
            Check.due("the need 0 where none is", 6, farm.setBog(35, 0));
            Check.due("a bog that is there", 6, farm.setBog(10, 50));
            Check.due("one is gone", 5, farm.setBog(10, 0));
            Check.due("a sixth bog", 6, farm.setBog(35, 1));
        });
    }

    private static void bogIsGone() {
        CraneCampaign farm = withSixBogs();
        for (int i = 0; i < 6; i++) {
            Check.due("the place of bog " + i, 10 + 10 * i, farm.bog(i, 0));
            Check.due("the need of bog " + i, 6 - i, farm.bog(i, 1));
        }
        farm.setBog(40, 50);
        Check.due("the new need", 50, farm.bog(3, 1));
        int[] gone = {60, 10, 30};
        int[][] left = {{10, 20, 30, 40, 50}, {20, 30, 40, 50}, {20, 40, 50}};
        int[][] needs = {{6, 5, 4, 50, 2}, {5, 4, 50, 2}, {5, 50, 2}};
        for (int i = 0; i < 3; i++) {
            farm.setBog(gone[i], 0);
            for (int k = 0; k < left[i].length; k++) {
                Check.due("the place of bog " + k, left[i][k], farm.bog(k, 0));
                Check.due("the need of bog " + k, needs[i][k], farm.bog(k, 1));
            }
            int count = left[i].length;
            Edge.refused(farm, "the bog behind the last one", Edge.INDEX, () -> farm.bog(count, 0));
        }
    }

    private static void set() {
        Edge.of("Promise 5", "Undoable.", () -> {
            for (int i = 0; i < 7; i++) {
                int setting = i;
                Edge.undoable(farm -> farm.set(setting, farm.setting(setting) + 1));
            }
        });
        Edge.of("Promise 5", "setting: 0 to 6", () -> Edge.range(0, 6, Edge.INDEX, Farms::inUse,
                (farm, setting) -> farm.set(setting, 7)));
        Edge.of("Promise 5", "Returns the previous value.", () -> {
            int[] first = {16, 5, 3, 24, 2, 10, 0};
            CraneCampaign farm = new CraneCampaign();
            for (int i = 0; i < 7; i++) {
                Check.due("the value at first", first[i], farm.set(i, HIGHEST[i]));
                Check.due("the highest value", HIGHEST[i], farm.set(i, LOWEST[i]));
                Check.due("the lowest value", LOWEST[i], farm.set(i, LOWEST[i]));
                Check.due("the same value", LOWEST[i], farm.setting(i));
            }
        });
        Edge.of("Promise 5", "Throws IndexOutOfBoundsException if there is no such setting", () -> {
            CraneCampaign farm = Farms.inUse();
            for (int setting : new int[] {-1, 7, Integer.MIN_VALUE, Integer.MAX_VALUE}) {
                Edge.refused(farm, "set(" + setting + ", 5)", Edge.INDEX, () -> farm.set(setting, 5));
            }
        });
        Edge.of("Promise 5", "Throws IllegalArgumentException if value is out of range", () -> {
            for (int i = 0; i < 7; i++) {
                int setting = i;
                Edge.range(LOWEST[i], HIGHEST[i], Edge.ARGUMENT, Farms::inUse,
                        (farm, value) -> farm.set(setting, value));
            }
        });
    }
}
