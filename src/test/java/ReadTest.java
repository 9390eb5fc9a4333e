/** Promises 15 to 20: turbine, blade, bog, claims, count, setting. */
public final class ReadTest {
    public static void main(String[] args) {
        promise15Turbine();
        promise15Limit();
        promise16Blade();
        promise17Bog();
        promise18Claims();
        promise19Count();
        promise20Setting();
        readingSavesNothing();
        Check.finish();
    }

    /** Two turbines with faults after seven hours: three of moving, four of work on the first one. */
    private static CraneCampaign atWork() {
        CraneCampaign farm = new CraneCampaign();
        farm.addTurbine(15, 120, 24);
        farm.addTurbine(40, 90, 12);
        farm.setFault(0, 2);
        farm.setFault(1, 1);
        farm.orderBlade(0);
        farm.orderBlade(0);
        farm.orderBlade(1);
        farm.plan(1, 0);
        farm.plan(0, 0);
        farm.pass(7);
        return farm;
    }

    private static void promise15Turbine() {
        CraneCampaign farm = atWork();
        int[][] properties = {
            {15, 120, 24, 2, 3, 12, 0, 2, 3 * 8 + 4 * 16, 3 * 8, 16},
            {40, 90, 12, 1, 7, 13, 1, 1, 7 * 2, 7 * 6, 8},
        };
        for (int t = 0; t < 2; t++) {
            for (int what = 0; what <= 10; what++) {
                Check.due("turbine(" + t + ", " + what + ")", properties[t][what], farm.turbine(t, what));
            }
        }
        Check.outOfBounds("turbine(2, 0)", () -> farm.turbine(2, 0));
        Check.outOfBounds("turbine(-1, 0)", () -> farm.turbine(-1, 0));
        Check.outOfBounds("turbine(2, 11): the index first", () -> farm.turbine(2, 11));
        Check.badArgument("turbine(0, 11)", () -> farm.turbine(0, 11));
        Check.badArgument("turbine(0, -1)", () -> farm.turbine(0, -1));
        farm.unplan(0);
        Check.due("not in the plan", -1, farm.turbine(0, 6));
    }

    private static void promise15Limit() {
        int[][] limits = {{50, 2}, {74, 2}, {75, 3}, {99, 3}, {100, 4}, {149, 5}, {150, 6}, {160, 6}};
        for (int[] row : limits) {
            CraneCampaign farm = new CraneCampaign();
            farm.addTurbine(1, row[0], 1);
            Check.due("limit at the height " + row[0], 16 - row[1], farm.turbine(0, 5));
            farm.set(0, 5);
            Check.due("least limit at the height " + row[0], 5 - row[1], farm.turbine(0, 5));
        }
    }

    private static void promise16Blade() {
        CraneCampaign farm = new CraneCampaign();
        farm.addTurbine(15, 120, 24);
        farm.addTurbine(40, 99, 12);
        farm.orderBlade(1);
        farm.orderBlade(0);
        Check.due("blade(0, 0)", 1, farm.blade(0, 0));
        Check.due("blade(0, 1)", 9, farm.blade(0, 1));
        Check.due("blade(1, 0)", 0, farm.blade(1, 0));
        Check.due("blade(1, 1)", 12, farm.blade(1, 1));
        farm.pass(1);
        Check.due("blade(0, 1) after an hour", 0, farm.blade(0, 1));
        Check.due("blade(1, 1) after an hour", 11, farm.blade(1, 1));
        Check.outOfBounds("blade(2, 0)", () -> farm.blade(2, 0));
        Check.outOfBounds("blade(-1, 0)", () -> farm.blade(-1, 0));
        Check.outOfBounds("blade(2, 2): the index first", () -> farm.blade(2, 2));
        Check.badArgument("blade(1, 2)", () -> farm.blade(1, 2));
        Check.badArgument("blade(1, -1)", () -> farm.blade(1, -1));
        Check.outOfBounds("blade(10, 0)", () -> farm.blade(10, 0));
    }

    private static void promise17Bog() {
        CraneCampaign farm = new CraneCampaign();
        farm.setBog(60, 3);
        farm.setBog(20, 50);
        Check.due("bog(0, 0)", 20, farm.bog(0, 0));
        Check.due("bog(0, 1)", 50, farm.bog(0, 1));
        Check.due("bog(1, 0)", 60, farm.bog(1, 0));
        Check.due("bog(1, 1)", 3, farm.bog(1, 1));
        Check.outOfBounds("bog(2, 0)", () -> farm.bog(2, 0));
        Check.outOfBounds("bog(-1, 0)", () -> farm.bog(-1, 0));
        Check.outOfBounds("bog(6, 2): the index first", () -> farm.bog(6, 2));
        Check.badArgument("bog(0, 2)", () -> farm.bog(0, 2));
        Check.badArgument("bog(0, -1)", () -> farm.bog(0, -1));
    }

    private static void promise18Claims() {
        CraneCampaign farm = atWork();
        int[] claims = {14, 24, 0, 0, 64};
        for (int cause = 0; cause < 5; cause++) {
            Check.due("claims(" + cause + ")", claims[cause], farm.claims(cause));
        }
        Check.badArgument("claims(5)", () -> farm.claims(5));
        Check.badArgument("claims(-1)", () -> farm.claims(-1));
        farm.undo();
        Check.due("claims(4) after undo", 0, farm.claims(4));
    }

    private static void promise19Count() {
        CraneCampaign farm = atWork();
        Check.dueTrue("the counts at work, " + Farms.counts(farm),
                Farms.counts(farm).equals("2,2,7,8,0,2,0,15,0,-1,4,102,66,3,6"));
        farm.plan(1, 0);
        farm.pass(2);
        Farms.winds(farm, "1,2,3,4");
        Check.dueTrue("the counts on the way, " + Farms.counts(farm),
                Farms.counts(farm).equals("2,2,9,2,4,2,1,15,3,1,0,122,94,3,6"));
        Check.badArgument("count(15)", () -> farm.count(15));
        Check.badArgument("count(-1)", () -> farm.count(-1));
    }

    private static void promise20Setting() {
        CraneCampaign farm = new CraneCampaign();
        for (int i = 0; i < 7; i++) {
            farm.set(i, 7 + i % 2);
        }
        for (int i = 0; i < 7; i++) {
            Check.due("setting(" + i + ")", 7 + i % 2, farm.setting(i));
        }
        Check.outOfBounds("setting(7)", () -> farm.setting(7));
        Check.outOfBounds("setting(-1)", () -> farm.setting(-1));
    }

    private static void readingSavesNothing() {
        CraneCampaign farm = atWork();
        farm.undo();
        long before = farm.digest();
        farm.turbine(0, 10);
        farm.blade(0, 1);
        farm.claims(0);
        farm.count(14);
        farm.setting(0);
        farm.way(0, 99);
        farm.ifPassed(200, 5);
        farm.bestFirst();
        farm.window(0, 3);
        farm.doneIn();
        farm.meanWind();
        farm.lostShare();
        Check.due("the digest after reading", before, farm.digest());
        Check.due("saved states after reading", 5, farm.count(14));
    }
}
