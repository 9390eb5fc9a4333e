/** Farms that several tests begin with, and short ways to ask them. */
final class Farms {
    private Farms() {
    }

    /** One turbine at the place 10, height 100 (limit 12, blades of 10 tonnes), rate 12. */
    static CraneCampaign withOne() {
        CraneCampaign farm = new CraneCampaign();
        farm.addTurbine(10, 100, 12);
        return farm;
    }

    /** Turbines at the places 10, 20, 30 .. with height 100 and rate 12. */
    static CraneCampaign withTurbines(int turbines) {
        CraneCampaign farm = new CraneCampaign();
        for (int i = 0; i < turbines; i++) {
            farm.addTurbine(10 + 9 * i, 100, 12);
        }
        return farm;
    }

    /** A turbine that the crane reaches in the first hour, with a blade that is unloaded then. */
    static CraneCampaign readyToServe(int fault) {
        CraneCampaign farm = withOne();
        farm.set(1, 20);
        farm.setFault(0, fault);
        farm.orderBlade(0);
        farm.plan(0, 0);
        return farm;
    }

    static CraneCampaign write(CraneCampaign farm, String text) {
        for (int i = 0; i < text.length(); i++) {
            farm.append(text.charAt(i));
        }
        return farm;
    }

    static int winds(CraneCampaign farm, String text) {
        farm.clearBuffer();
        return write(farm, text).load();
    }

    static String plan(CraneCampaign farm) {
        StringBuilder text = new StringBuilder();
        for (int place = 0; place < farm.count(5); place++) {
            for (int t = 0; t < farm.count(0); t++) {
                if (farm.turbine(t, 6) == place) {
                    text.append(t);
                }
            }
        }
        return text.toString();
    }

    static String counts(CraneCampaign farm) {
        StringBuilder text = new StringBuilder();
        for (int what = 0; what <= 14; what++) {
            text.append(farm.count(what)).append(what < 14 ? "," : "");
        }
        return text.toString();
    }
}
