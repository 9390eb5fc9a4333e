/** Promises 10 to 14: append, clearBuffer, firstError, load, undo. */
public final class TextTest {
    public static void main(String[] args) {
        promise10Append();
        promise11ClearBuffer();
        promise12FirstError();
        promise12EachNumber();
        promise12EachTimes();
        promise13Load();
        promise13Refused();
        promise14Undo();
        promise14UndoOfEach();
        promise14SixStates();
        Check.finish();
    }

    private static void promise10Append() {
        CraneCampaign farm = new CraneCampaign();
        Check.badArgument("append(32)", () -> farm.append(32));
        Check.badArgument("append(127)", () -> farm.append(127));
        Check.badArgument("append(-1)", () -> farm.append(-1));
        Check.badArgument("append(44 + 65536)", () -> farm.append(44 + 65536));
        Check.due("append(33)", 1, farm.append(33));
        Check.due("append(126)", 2, farm.append(126));
        for (int i = 3; i <= 60; i++) {
            Check.due("append(48)", i, farm.append(48));
        }
        Check.badState("the character 61", () -> farm.append(48));
        Check.badArgument("a wrong character 61", () -> farm.append(32));
        Check.due("append saves no state", 0, farm.count(14));
        Check.due("the length", 60, farm.clearBuffer());
        Check.due("append after clearBuffer", 1, farm.append(48));
    }

    private static void promise11ClearBuffer() {
        CraneCampaign farm = new CraneCampaign();
        Check.due("clearBuffer on a new object", 0, farm.clearBuffer());
        Farms.write(farm, "1,x");
        Check.due("clearBuffer", 3, farm.clearBuffer());
        Check.due("clearBuffer again", 0, farm.clearBuffer());
        Check.due("no error is left", 0, farm.firstError());
        Check.due("clearBuffer saves no state", 0, farm.count(14));
    }

    private static void errorAt(String text, int want) {
        CraneCampaign farm = Farms.write(new CraneCampaign(), text);
        Check.due("firstError of " + text, want, farm.firstError());
        Check.due("firstError of " + text + " again", want, farm.firstError());
        Check.due("firstError leaves the buffer", text.length(), farm.clearBuffer());
    }

    private static void promise12FirstError() {
        String[] right = {"", "0", "7", "30", "1,", "1*", "1*1", "1*2", "0*48,", "29*10,3", "3,3,3", "10*20,0*9,30",
            "30*48,30*48,30*48", "1*3,2*39"};
        for (String text : right) {
            errorAt(text, text.length());
        }
        errorAt(",", 0);
        errorAt("*", 0);
        errorAt("x", 0);
        errorAt("-1", 0);
        errorAt("1,,", 2);
        errorAt("1,*", 2);
        errorAt("1**", 2);
        errorAt("1*,", 2);
        errorAt("1*1,", 3);
        errorAt("1*1*", 3);
        errorAt("1*2*", 3);
        errorAt("1*2x", 3);
        errorAt("1x2y", 1);
        errorAt("12,01,1", 4);
        errorAt("5,300", 4);
        errorAt("5.5", 1);
        errorAt("1/", 1);
        errorAt("1:", 1);
        errorAt("5*10,5*100", 9);
        errorAt("1,2,3,4,5,6,7,8,9,1,2,3,4,5,6,7,8,9,1,2,3,4,5,6,7,8,9,10,11,12,".substring(0, 60), 60);
    }

    private static void promise12EachNumber() {
        for (int number = 0; number <= 99; number++) {
            boolean right = number <= 30;
            errorAt("1," + number + ",", right ? 3 + String.valueOf(number).length() : 3);
            errorAt("0" + number, 1);
        }
    }

    private static void promise12EachTimes() {
        for (int times = 10; times <= 99; times++) {
            errorAt("1*" + times, times <= 48 ? 4 : 3);
        }
        for (int times = 2; times <= 9; times++) {
            errorAt("30*" + times + ",", 5);
        }
        errorAt("1*0", 2);
        errorAt("1*02", 2);
        errorAt("1*1", 3);
        errorAt("1*100", 4);
    }

    private static void promise13Load() {
        CraneCampaign farm = new CraneCampaign();
        Check.due("load of 7", 1, Farms.winds(farm, "7"));
        Check.due("the buffer is cleared", 0, farm.clearBuffer());
        Check.due("the wind", 7, farm.count(3));
        Check.due("load of 3,30*2,0", 4, Farms.winds(farm, "3,30*2,0"));
        Check.due("numbers in the row", 4, farm.count(4));
        int[] winds = {3, 30, 30, 0};
        for (int hour = 0; hour < 9; hour++) {
            Check.due("the wind in the hour " + hour, winds[hour % 4], farm.count(3));
            farm.pass(1);
        }
        Check.due("load of 5,6 in the hour 9", 2, Farms.winds(farm, "5,6"));
        Check.due("the wind in the hour 9", 6, farm.count(3));
        Check.due("48 numbers", 48, Farms.winds(farm, "8*46,9*2"));
        Check.due("48 numbers in one part", 48, Farms.winds(farm, "12*48"));
        Check.due("20 numbers of two signs", 20, Farms.winds(farm,
                "10,11,12,13,14,15,16,17,18,19,20,21,22,23,24,25,26,27,28,29"));
        Check.due("saved states", 6, farm.count(14));
        farm.undo();
        Check.due("the row of before", 48, farm.count(4));
        Check.due("undo leaves the buffer alone", 0, farm.clearBuffer());
    }

    private static void promise13Refused() {
        String[] notComplete = {"", "1,", "1*", "1*1", "x", "31", "01", "1*0", "1*49", "1*2*2", "1,,2", "30*48,30*48,"};
        for (String text : notComplete) {
            CraneCampaign farm = Farms.write(new CraneCampaign(), text);
            Check.badArgument("load of " + text, () -> farm.load());
            Check.due("saved states after load of " + text, 0, farm.count(14));
            Check.due("the buffer after load of " + text, text.length(), farm.clearBuffer());
        }
        String[] tooLong = {"8*48,9", "8*24,9*25", "30*48,30*48,30*48,30*48,30*48,30*48,30*48,30*48,30*48,0*48"};
        for (String text : tooLong) {
            CraneCampaign farm = Farms.write(new CraneCampaign(), text);
            Check.badState("load of " + text, () -> farm.load());
            Check.due("saved states after load of " + text, 0, farm.count(14));
            Check.due("winds after load of " + text, 0, farm.count(4));
            Check.due("the buffer after load of " + text, text.length(), farm.clearBuffer());
        }
    }

    private static void promise14Undo() {
        CraneCampaign farm = new CraneCampaign();
        Check.badState("undo on a new object", () -> farm.undo());
        farm.setBog(5, 0);
        Check.due("a change of nothing is saved", 1, farm.count(14));
        Farms.write(farm, "3,4");
        Check.due("undo", 0, farm.undo());
        Check.due("undo leaves the buffer", 3, farm.firstError());
        Check.badState("undo again", () -> farm.undo());
        Check.due("load of 3,4", 2, farm.load());
        farm.append(57);
        Check.due("undo of load", 0, farm.undo());
        Check.due("no winds", 0, farm.count(4));
        Check.due("the new character stays", 1, farm.clearBuffer());
    }

    private static void promise14UndoOfEach() {
        CraneCampaign farm = Farms.readyToServe(3);
        farm.addTurbine(30, 90, 20);
        farm.setBog(20, 7);
        farm.plan(1, 1);
        farm.pass(7);
        long before = farm.digest();
        for (int kind = 0; kind < 9; kind++) {
            Check.due("six states are saved", 6, farm.count(14));
            change(farm, kind);
            Check.dueTrue("the change " + kind + " changes something", farm.digest() != before);
            Check.due("undo of the change " + kind, 5, farm.undo());
            // A change of nothing brings back the number of saved states, which the digest tells, too.
            farm.setBog(99, 0);
            Check.due("the digest after undo of the change " + kind, before, farm.digest());
        }
    }

    private static void change(CraneCampaign farm, int kind) {
        switch (kind) {
            case 0: farm.pass(200); break;
            case 1: farm.addTurbine(77, 77, 7); break;
            case 2: farm.plan(1, 0); break;
            case 3: farm.orderBlade(0); break;
            case 4: farm.set(0, 9); break;
            case 5: farm.setFault(0, 1); break;
            case 6: farm.setBog(20, 0); break;
            case 7: Farms.winds(farm, "9,20,30*4"); break;
            default: farm.unplan(0); break;
        }
    }

    private static void promise14SixStates() {
        CraneCampaign farm = new CraneCampaign();
        for (int i = 0; i < 9; i++) {
            farm.set(6, i);
            Check.due("saved states", Math.min(6, i + 1), farm.count(14));
        }
        for (int i = 0; i < 6; i++) {
            Check.due("undo " + i, 5 - i, farm.undo());
            Check.due("mats after undo " + i, 7 - i, farm.setting(6));
        }
        Check.badState("the seventh undo", () -> farm.undo());
        Check.due("mats then", 2, farm.setting(6));
        farm.set(6, 40);
        Check.due("one state is saved again", 1, farm.count(14));
        farm.undo();
        Check.due("mats at the end", 2, farm.setting(6));
    }
}
