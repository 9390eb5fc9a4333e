/** Promises 21 to 28: way, ifPassed, bestFirst, window, doneIn, meanWind, lostShare, digest. */
public final class QuestionTest {
    public static void main(String[] args) {
        promise21Way();
        promise21Bogs();
        promise22IfPassed();
        promise22PastTheLastHour();
        promise23BestFirst();
        promise23Ties();
        promise24Window();
        promise25DoneIn();
        promise25Edges();
        promise26MeanWind();
        promise27LostShare();
        promise28Digest();
        promise28OfEachPart();
        Check.finish();
    }

    private static void promise21Way() {
        CraneCampaign farm = new CraneCampaign();
        int[][] ways = {{0, 0, 0}, {0, 1, 1}, {0, 5, 1}, {0, 6, 2}, {99, 0, 20}, {50, 40, 2}, {40, 51, 3}};
        for (int[] row : ways) {
            Check.due("way(" + row[0] + ", " + row[1] + ")", row[2], farm.way(row[0], row[1]));
        }
        farm.set(1, 1);
        Check.due("way(0, 99) with the speed 1", 99, farm.way(0, 99));
        farm.set(1, 20);
        Check.due("way(99, 0) with the speed 20", 5, farm.way(99, 0));
        int[][] wrong = {{-1, 0}, {0, -1}, {100, 0}, {0, 100}, {Integer.MIN_VALUE, Integer.MAX_VALUE}};
        for (int[] row : wrong) {
            Check.badArgument("way(" + row[0] + ", " + row[1] + ")", () -> farm.way(row[0], row[1]));
        }
    }

    private static void promise21Bogs() {
        CraneCampaign farm = new CraneCampaign();
        farm.setBog(20, 5);
        farm.setBog(30, 1);
        Check.due("both bogs between", 8 + 4, farm.way(0, 40));
        Check.due("both bogs between, backwards", 8 + 4, farm.way(40, 0));
        Check.due("a bog at the end", 4, farm.way(0, 20));
        Check.due("a bog at the beginning, one between", 4 + 2, farm.way(20, 40));
        Check.due("bogs at both ends", 2, farm.way(30, 20));
        Check.due("one just inside", 5 + 2, farm.way(21, 0));
        farm.set(4, 7);
        Check.due("another bog time", 8 + 14, farm.way(0, 40));
        farm.set(6, 4);
        Check.due("mats for one of them", 8 + 7, farm.way(0, 40));
        farm.set(6, 5);
        Check.due("mats for both", 8, farm.way(0, 40));
        farm.set(6, 0);
        farm.set(4, 0);
        Check.due("no bog time", 8, farm.way(0, 40));
    }

    private static CraneCampaign withThreeFaults() {
        CraneCampaign farm = new CraneCampaign();
        farm.addTurbine(10, 100, 12);
        farm.addTurbine(50, 50, 50);
        farm.addTurbine(90, 70, 30);
        for (int t = 0; t < 3; t++) {
            farm.setFault(t, t + 1);
            farm.orderBlade(t);
            farm.plan(t, t);
        }
        return farm;
    }

    private static void promise22IfPassed() {
        for (int hours = 1; hours <= 200; hours = 2 * hours + 3) {
            CraneCampaign farm = withThreeFaults();
            farm.pass(3);
            int[] would = new int[9];
            for (int what = 0; what <= 8; what++) {
                would[what] = farm.ifPassed(hours, what);
            }
            farm.pass(hours);
            for (int cause = 0; cause < 5; cause++) {
                Check.due("claims after " + hours, farm.claims(cause), would[cause]);
            }
            Check.due("lost after " + hours, farm.count(11), would[5]);
            Check.due("won after " + hours, farm.count(12), would[6]);
            Check.due("faults after " + hours, farm.count(1), would[7]);
            Check.due("plan after " + hours, farm.count(5), would[8]);
        }
        CraneCampaign farm = withThreeFaults();
        Check.badArgument("ifPassed(0, 0)", () -> farm.ifPassed(0, 0));
        Check.badArgument("ifPassed(201, 0)", () -> farm.ifPassed(201, 0));
        Check.badArgument("ifPassed(1, 9)", () -> farm.ifPassed(1, 9));
        Check.badArgument("ifPassed(1, -1)", () -> farm.ifPassed(1, -1));
        Check.due("ifPassed(1, 8)", 3, farm.ifPassed(1, 8));
        Check.due("the hour is not changed", 0, farm.count(2));
    }

    private static void promise22PastTheLastHour() {
        CraneCampaign farm = Farms.withOne();
        farm.setFault(0, 4);
        farm.plan(0, 0);
        for (int i = 0; i < 50; i++) {
            farm.pass(200);
        }
        Check.due("lost in 10000 hours", 80000, farm.count(11));
        Check.due("ifPassed(200, 5) at the last hour", 81600, farm.ifPassed(200, 5));
        Check.due("doneIn at the last hour, without a blade", -1, farm.doneIn());
        farm.orderBlade(0);
        Check.due("doneIn at the last hour, with a blade", 12, farm.doneIn());
        Check.due("bestFirst at the last hour", 0, farm.bestFirst());
    }

    private static void promise23BestFirst() {
        CraneCampaign farm = new CraneCampaign();
        farm.addTurbine(40, 50, 10);
        farm.addTurbine(41, 50, 20);
        readyForBoth(farm, 1);
        // 0 first loses 6 hours of 6 and 11 of 13, 1 first 7 of 13 and 12 of 6.
        Check.due("lost with 0 first", 6 * 6 + 11 * 13, lostWithFirst(farm, 0));
        Check.due("lost with 1 first", 7 * 13 + 12 * 6, lostWithFirst(farm, 1));
        Check.due("1 first is better", 1, farm.bestFirst());
        Check.dueTrue("the plan is not changed", Farms.plan(farm).equals("01"));
        farm.unplan(1);
        Check.due("only those of the plan are asked for", 0, farm.bestFirst());
        Check.due("none with an empty plan", -1, Farms.withOne().bestFirst());
        CraneCampaign three = withThreeFaults();
        three.plan(0, 2);
        int best = three.bestFirst();
        for (int t = 0; t < 3; t++) {
            Check.dueTrue(t + " first is not better than " + best,
                    lostWithFirst(three, t) >= lostWithFirst(three, best));
        }
    }

    private static void readyForBoth(CraneCampaign farm, int work) {
        farm.set(1, 20);
        farm.set(2, work);
        farm.set(5, 100);
        for (int t = 0; t < 2; t++) {
            farm.setFault(t, 4);
            farm.orderBlade(t);
            farm.plan(t, t);
        }
    }

    private static int lostWithFirst(CraneCampaign farm, int turbine) {
        farm.plan(turbine, 0);
        int lost = farm.ifPassed(48, 5) - farm.count(11);
        farm.undo();
        return lost;
    }

    private static void promise23Ties() {
        CraneCampaign farm = Farms.withTurbines(3);
        farm.plan(2, 0);
        farm.plan(0, 1);
        farm.plan(1, 2);
        Check.due("of all without faults the first of the plan", 2, farm.bestFirst());
        farm.setFault(0, 1);
        Check.due("a target without a fault costs nothing: a tie", 2, farm.bestFirst());
        farm.plan(1, 0);
        Check.due("the earlier one in the plan now", 1, farm.bestFirst());
        onlyTheNextHoursCount();
    }

    // The turbine 0 is done after 45 hours and wins 1 in an hour, the turbine 1 after 47 or 48 and wins 50.
    private static void onlyTheNextHoursCount() {
        for (int more = 0; more <= 1; more++) {
            CraneCampaign farm = new CraneCampaign();
            farm.addTurbine(20, 50, 1);
            farm.addTurbine(60 + more, 50, 50);
            Farms.winds(farm, "12");
            readyForBoth(farm, 11);
            Check.due("the hour 48 counts, the hour 49 does not", 1 - more, farm.bestFirst());
        }
    }

    private static void promise24Window() {
        CraneCampaign farm = new CraneCampaign();
        farm.addTurbine(10, 50, 12);
        farm.addTurbine(20, 160, 12);
        Farms.winds(farm, "15,14,13,15,14,14,14,10,15*3");
        // The row has 11 numbers; the limits are 14 and 10.
        int[] windows = {1, 1, 4, 4, -1};
        for (int hours = 1; hours <= 5; hours++) {
            Check.due("window(0, " + hours + ")", windows[hours - 1], farm.window(0, hours));
        }
        Check.due("window(1, 1)", 7, farm.window(1, 1));
        Check.due("window(1, 2)", -1, farm.window(1, 2));
        farm.pass(2);
        Check.due("window(0, 1) in the hour 2", 0, farm.window(0, 1));
        Check.due("window(0, 2) in the hour 2", 2, farm.window(0, 2));
        Check.due("window(1, 1) in the hour 2", 5, farm.window(1, 1));
        farm.pass(6);
        Check.due("window(0, 2) in the hour 8: around the row", 4, farm.window(0, 2));
        Check.due("window(1, 1) in the hour 8", 10, farm.window(1, 1));
        Farms.winds(farm, "14");
        Check.due("window(0, 24) at the limit", 0, farm.window(0, 24));
        Check.outOfBounds("window(2, 1)", () -> farm.window(2, 1));
        Check.outOfBounds("window(-1, 25): the index first", () -> farm.window(-1, 25));
        Check.badArgument("window(0, 0)", () -> farm.window(0, 0));
        Check.badArgument("window(0, 25)", () -> farm.window(0, 25));
        windowRunsBeyond96();
    }

    private static void windowRunsBeyond96() {
        CraneCampaign farm = Farms.withOne();
        Farms.winds(farm, "30*24,8*24");
        Check.due("24 calm hours, as long as the row has", 24, farm.window(0, 24));
        farm.pass(25);
        Check.due("24 calm hours, one of them is over", 47, farm.window(0, 24));
        Check.due("23 calm hours are left", 0, farm.window(0, 23));
        Farms.winds(farm, "30*47,0");
        farm.pass(22);
        Check.due("calm in this hour", 0, farm.window(0, 1));
        farm.pass(1);
        Check.due("calm 47 hours later", 47, farm.window(0, 1));
    }

    private static void promise25DoneIn() {
        CraneCampaign farm = withThreeFaults();
        int hours = farm.doneIn();
        CraneCampaign other = withThreeFaults();
        other.pass(hours - 1);
        Check.due("one is in the plan before", 1, other.count(5));
        Check.due("doneIn before", 1, other.doneIn());
        other.pass(1);
        Check.due("none is in the plan then", 0, other.count(5));
        Check.due("doneIn then", 0, other.doneIn());
        Check.due("doneIn of a new object", 0, new CraneCampaign().doneIn());
        CraneCampaign faultless = Farms.withTurbines(2);
        faultless.plan(0, 0);
        Check.due("a target without a fault is dropped by the next hour", 1, faultless.doneIn());
        CraneCampaign noBlade = Farms.readyToServe(1);
        noBlade.undo();
        noBlade.undo();
        noBlade.plan(0, 0);
        Check.due("without a blade", -1, noBlade.doneIn());
    }

    // A way of 98 hours and 12 * 4 hours of work each: four turns end after 500 hours or just beyond.
    private static void promise25Edges() {
        for (int more = 0; more <= 1; more++) {
            CraneCampaign farm = new CraneCampaign();
            farm.set(1, 1);
            farm.set(2, 12);
            farm.set(5, 100);
            int[] places = {99, 2, 92, 1 + 2 * 2 - more};
            for (int t = 0; t < 4; t++) {
                farm.addTurbine(places[t], 50, 12);
                farm.setFault(t, 4);
                farm.orderBlade(t);
                farm.plan(t, t);
            }
            // Ways of 99, 97, 90 and 87 hours, or 88, and 4 times 48 hours of work: 565, so 66 less.
            farm.pass(65);
            Check.due("doneIn of 500 or 501 hours", more == 0 ? 500 : -1, farm.doneIn());
            farm.pass(1);
            Check.due("doneIn an hour later", more == 0 ? 499 : 500, farm.doneIn());
        }
    }

    private static void meanIs(String text, float want) {
        CraneCampaign farm = new CraneCampaign();
        Farms.winds(farm, text);
        Check.due("the mean of " + text, Float.floatToIntBits(want), Float.floatToIntBits(farm.meanWind()));
    }

    private static void promise26MeanWind() {
        Check.due("the mean without a row", Float.floatToIntBits(8.0f),
                Float.floatToIntBits(new CraneCampaign().meanWind()));
        meanIs("0", 0.0f);
        meanIs("7", 7.0f);
        meanIs("1,2", 1.5f);
        meanIs("0,0,1", 1.0f / 3);
        meanIs("30*47,29", 1439.0f / 48);
        meanIs("0*47,1", 1.0f / 48);
        meanIs("10,20*6", 130.0f / 7);
    }

    private static void shareIs(CraneCampaign farm, double want) {
        Check.due("the share " + want, Double.doubleToLongBits(want), Double.doubleToLongBits(farm.lostShare()));
    }

    private static void promise27LostShare() {
        CraneCampaign farm = Farms.withTurbines(3);
        shareIs(farm, 0.0);
        farm.pass(1);
        shareIs(farm, 0.0);
        farm.setFault(0, 1);
        farm.pass(1);
        shareIs(farm, 2.0 / 48);
        farm.setFault(0, 4);
        farm.pass(10);
        shareIs(farm, 82.0 / 288);
        farm.undo();
        shareIs(farm, 2.0 / 48);
        CraneCampaign dark = Farms.withOne();
        Farms.winds(dark, "30");
        dark.setFault(0, 4);
        dark.pass(3);
        shareIs(dark, 0.0);
        CraneCampaign all = Farms.withOne();
        all.setFault(0, 4);
        all.pass(3);
        shareIs(all, 1.0);
        Check.due("the digest with the share 1.0", Digest.of(all, ""), all.digest());
        CraneCampaign one = new CraneCampaign();
        one.addTurbine(1, 50, 2);
        one.setFault(0, 4);
        one.pass(1);
        Check.due("power lost", 1, one.count(11));
        shareIs(one, 1.0);
    }

    private static void promise28Digest() {
        CraneCampaign empty = new CraneCampaign();
        Check.due("the digest of a new object", Digest.of(empty, ""), empty.digest());
        CraneCampaign farm = withBogsAndThreeFaults();
        Check.due("the digest with an error in the buffer", Digest.of(Farms.write(farm, "1,~!"), "1,~!"),
                farm.digest());
        for (int hours = 1; hours <= 160; hours += 4) {
            CraneCampaign later = withBogsAndThreeFaults();
            Farms.winds(later, "0,1,2*3,17,9,30");
            later.pass(hours);
            Check.due("the digest after " + hours + " hours", Digest.of(later, ""), later.digest());
            Check.due("the digest again", later.digest(), later.digest());
        }
    }

    private static CraneCampaign withBogsAndThreeFaults() {
        CraneCampaign farm = withThreeFaults();
        farm.setBog(30, 5);
        farm.setBog(70, 2);
        return farm;
    }

    private static void promise28OfEachPart() {
        String[] rows = {"0", "1", "0*47,1", "2", "3,4", "29,30", "30*48", "0,0,1", "7,7,8", "16", "15,16"};
        for (String row : rows) {
            CraneCampaign farm = withThreeFaults();
            Farms.winds(farm, row);
            Farms.write(farm, row);
            Check.due("the digest with the winds " + row, Digest.of(farm, row), farm.digest());
            farm.clearBuffer();
            farm.pass(48);
            Check.due("the digest with the winds " + row + " and hours", Digest.of(farm, ""), farm.digest());
        }
        for (int rounds = 1; rounds <= 40; rounds++) {
            CraneCampaign little = Farms.withTurbines(10);
            little.setFault(0, 1);
            little.pass(1);
            little.setFault(0, 0);
            for (int i = 0; i < rounds; i++) {
                little.pass(200);
            }
            Check.due("the digest with a small share", Digest.of(little, ""), little.digest());
        }
    }
}
