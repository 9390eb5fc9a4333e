/** Promises 1 to 5: a new object, addTurbine, setFault, setBog, set. */
public final class FarmTest {
    public static void main(String[] args) {
        promise1NewObject();
        promise2AddTurbine();
        promise2Edges();
        promise3SetFault();
        promise4SetBog();
        promise4FullOfBogs();
        promise5Set();
        Check.finish();
    }

    private static void promise1NewObject() {
        CraneCampaign farm = new CraneCampaign();
        Check.dueTrue("the counts of a new object, " + Farms.counts(farm),
                Farms.counts(farm).equals("0,0,0,8,0,0,-1,0,0,-1,0,0,0,0,0"));
        int[] settings = {16, 5, 3, 24, 2, 10, 0};
        for (int i = 0; i < 7; i++) {
            Check.due("setting " + i + " of a new object", settings[i], farm.setting(i));
        }
        Check.due("the new buffer", 0, farm.clearBuffer());
        Check.badState("undo on a new object", () -> farm.undo());
        Check.outOfBounds("turbine(0, 0) on a new object", () -> farm.turbine(0, 0));
        Check.outOfBounds("bog(0, 0) on a new object", () -> farm.bog(0, 0));
        Check.outOfBounds("blade(0, 0) on a new object", () -> farm.blade(0, 0));
        CraneCampaign other = Farms.withOne();
        Check.due("turbines of the other object", 1, other.count(0));
        Check.due("turbines of this object", 0, farm.count(0));
    }

    private static void promise2AddTurbine() {
        CraneCampaign farm = new CraneCampaign();
        Check.due("the first turbine", 0, farm.addTurbine(99, 50, 50));
        Check.due("the second turbine", 1, farm.addTurbine(1, 160, 1));
        int[][] properties = {{99, 50, 50, 0, 0, 14, -1, 0, 0, 0, 33}, {1, 160, 1, 0, 0, 10, -1, 0, 0, 0, 0}};
        for (int t = 0; t < 2; t++) {
            for (int what = 0; what <= 10; what++) {
                Check.due("turbine(" + t + ", " + what + ")", properties[t][what], farm.turbine(t, what));
            }
        }
        Check.due("saved states", 2, farm.count(14));
        Check.badState("a turbine at a place that is taken", () -> farm.addTurbine(99, 100, 10));
        Check.due("saved states after an exception", 2, farm.count(14));
        Check.due("turbines after an exception", 2, farm.count(0));
        Check.due("undo", 1, farm.undo());
        Check.due("turbines after undo", 1, farm.count(0));
        Check.due("a turbine at the place of one that is undone", 1, farm.addTurbine(1, 60, 5));
    }

    private static void promise2Edges() {
        CraneCampaign farm = new CraneCampaign();
        int[][] wrong = {{0, 50, 1}, {100, 50, 1}, {1, 49, 1}, {1, 161, 1}, {1, 50, 0}, {1, 50, 51},
            {Integer.MIN_VALUE, 50, 1}, {1, Integer.MAX_VALUE, 1}, {1, 50, Integer.MIN_VALUE}};
        for (int[] row : wrong) {
            Check.badArgument("addTurbine(" + row[0] + ", " + row[1] + ", " + row[2] + ")",
                    () -> farm.addTurbine(row[0], row[1], row[2]));
        }
        Check.due("turbines after exceptions", 0, farm.count(0));
        farm.setBog(20, 3);
        Check.due("a turbine at the place of a bog", 0, farm.addTurbine(20, 70, 7));
        for (int i = 1; i < 10; i++) {
            Check.due("turbine number", i, farm.addTurbine(20 + i, 70, 7));
        }
        Check.badState("the turbine 10", () -> farm.addTurbine(50, 70, 7));
        Check.badArgument("the turbine 10 with a wrong rate", () -> farm.addTurbine(50, 70, 51));
        Check.badArgument("a wrong height at a taken place", () -> farm.addTurbine(20, 49, 7));
    }

    private static void promise3SetFault() {
        CraneCampaign farm = Farms.withOne();
        Check.due("setFault(0, 3)", 0, farm.setFault(0, 3));
        Check.due("setFault(0, 4)", 3, farm.setFault(0, 4));
        Check.due("setFault(0, 1)", 4, farm.setFault(0, 1));
        farm.pass(5);
        Check.due("the age after 5 hours", 5, farm.turbine(0, 4));
        Check.due("setFault(0, 1) again", 1, farm.setFault(0, 1));
        Check.due("the age after setFault", 0, farm.turbine(0, 4));
        Check.due("turbines with a fault", 1, farm.count(1));
        int states = farm.count(14);
        Check.outOfBounds("setFault(1, 0)", () -> farm.setFault(1, 0));
        Check.outOfBounds("setFault(-1, 9): the index first", () -> farm.setFault(-1, 9));
        Check.badArgument("setFault(0, 5)", () -> farm.setFault(0, 5));
        Check.badArgument("setFault(0, -1)", () -> farm.setFault(0, -1));
        Check.due("saved states after exceptions", states, farm.count(14));
        farm.undo();
        Check.due("the age after undo", 5, farm.turbine(0, 4));
        Check.due("setFault(0, 0)", 1, farm.setFault(0, 0));
        Check.due("turbines with a fault at the end", 0, farm.count(1));
    }

    private static void promise4SetBog() {
        CraneCampaign farm = new CraneCampaign();
        Check.due("setBog(50, 5)", 1, farm.setBog(50, 5));
        Check.due("setBog(99, 50)", 2, farm.setBog(99, 50));
        Check.due("setBog(1, 1)", 3, farm.setBog(1, 1));
        Check.due("setBog(50, 7), a new need", 3, farm.setBog(50, 7));
        int[][] bogs = {{1, 1}, {50, 7}, {99, 50}};
        for (int i = 0; i < 3; i++) {
            Check.due("place of bog " + i, bogs[i][0], farm.bog(i, 0));
            Check.due("need of bog " + i, bogs[i][1], farm.bog(i, 1));
        }
        Check.due("setBog(1, 0)", 2, farm.setBog(1, 0));
        Check.due("the first bog then", 50, farm.bog(0, 0));
        Check.due("the need of the second bog then", 50, farm.bog(1, 1));
        Check.due("setBog(30, 0), where none is", 2, farm.setBog(30, 0));
        Check.due("saved states, also of a change of nothing", 6, farm.count(14));
        farm.undo();
        farm.undo();
        Check.due("the first bog after undo", 1, farm.bog(0, 0));
        farm.undo();
        Check.due("the need of the second bog after undo", 5, farm.bog(1, 1));
        Check.badArgument("setBog(0, 1)", () -> farm.setBog(0, 1));
        Check.badArgument("setBog(100, 1)", () -> farm.setBog(100, 1));
        Check.badArgument("setBog(5, -1)", () -> farm.setBog(5, -1));
        Check.badArgument("setBog(5, 51)", () -> farm.setBog(5, 51));
    }

    private static void promise4FullOfBogs() {
        CraneCampaign farm = new CraneCampaign();
        for (int i = 6; i > 0; i--) {
            Check.due("setBog(" + 10 * i + ", 1)", 7 - i, farm.setBog(10 * i, 1));
        }
        Check.badState("a seventh bog", () -> farm.setBog(5, 1));
        Check.badArgument("a seventh bog with a wrong need", () -> farm.setBog(5, 51));
        Check.due("a seventh bog with the need 0", 6, farm.setBog(5, 0));
        Check.due("a new need among 6", 6, farm.setBog(60, 9));
        Check.due("the need of the last one", 9, farm.bog(5, 1));
        Check.due("the last one is gone", 5, farm.setBog(60, 0));
        Check.outOfBounds("the bog 5 then", () -> farm.bog(5, 0));
        Check.due("one more then", 6, farm.setBog(5, 2));
        Check.due("the first one then", 5, farm.bog(0, 0));
        Check.due("the last one then", 50, farm.bog(5, 0));
    }

    private static void promise5Set() {
        int[] first = {16, 5, 3, 24, 2, 10, 0};
        int[] lowest = {5, 1, 1, 1, 0, 1, 0};
        int[] highest = {25, 20, 12, 200, 10, 100, 50};
        CraneCampaign farm = new CraneCampaign();
        for (int i = 0; i < 7; i++) {
            int setting = i;
            Check.due("set(" + i + ", lowest)", first[i], farm.set(i, lowest[i]));
            Check.due("set(" + i + ", highest)", lowest[i], farm.set(i, highest[i]));
            Check.due("setting(" + i + ")", highest[i], farm.setting(i));
            Check.badArgument("set(" + i + ", lowest - 1)", () -> farm.set(setting, lowest[setting] - 1));
            Check.badArgument("set(" + i + ", highest + 1)", () -> farm.set(setting, highest[setting] + 1));
        }
        Check.outOfBounds("set(-1, 5)", () -> farm.set(-1, 5));
        Check.outOfBounds("set(7, 5)", () -> farm.set(7, 5));
        Check.outOfBounds("set(7, -1): the index first", () -> farm.set(7, -1));
        Check.due("saved states", 6, farm.count(14));
        farm.undo();
        Check.due("the mats after undo", 0, farm.setting(6));
    }
}
