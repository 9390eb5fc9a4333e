import java.util.Random;

/** Random runs of 512 calls, each asked of the program and of the model; all 28 promises. */
public final class ModelTest {
    private static final int RUNS = 400;
    // With the digest at the end an object is asked 512 times, as often as the document promises answers.
    private static final int CALLS = 511;
    private static final String[] NAMES = {"addTurbine", "setFault", "setBog", "set", "plan", "unplan", "orderBlade",
        "pass", "append", "clearBuffer", "firstError", "load", "undo", "turbine", "blade", "bog", "claims", "count",
        "setting", "way", "ifPassed", "bestFirst", "window", "doneIn", "meanWind", "lostShare", "digest"};
    // How often each call comes, in the order of the names.
    private static final int[] WEIGHTS = {6, 10, 5, 8, 12, 3, 10, 30, 16, 1, 4, 6, 6, 6, 3, 2, 2, 6, 1, 3, 4, 4, 5, 4,
        1, 1, 8};
    private static final int[] WILD = {Integer.MIN_VALUE, -1000, -2, -1, 0, 1, 2, 3, 4, 5, 6, 7, 9, 10, 11, 14, 15, 24,
        25, 31, 48, 49, 50, 51, 60, 96, 99, 100, 127, 160, 161, 200, 201, 10001, Integer.MAX_VALUE};

    private final Random random;
    private final CraneCampaign program = new CraneCampaign();
    private final Model model = new Model();
    private final int wildness;
    private final StringBuilder text = new StringBuilder();

    private ModelTest(int seed) {
        random = new Random(seed);
        wildness = seed % 3 == 0 ? 30 : 4;
    }

    public static void main(String[] args) {
        for (int run = 0; run < RUNS; run++) {
            new ModelTest(run).play(run);
        }
        Check.finish();
    }

    private void play(int run) {
        for (int i = 0; i < CALLS; i++) {
            int kind = i < 12 ? i % 3 == 0 ? 0 : random.nextInt(8) : draw();
            int a = argument(kind, 0);
            int b = argument(kind, 1);
            int c = argument(kind, 2);
            String call = "run " + run + ", call " + i + ": " + NAMES[kind] + "(" + a + ", " + b + ", " + c + ")";
            String due = ofModel(kind, a, b, c);
            String got = ofProgram(kind, a, b, c);
            Check.dueTrue(call + " answers " + due + ", not " + got + ", and this", due.equals(got));
            if (!due.equals(got)) {
                return;
            }
        }
        Check.due("the digest at the end of run " + run, model.digest(), program.digest());
    }

    private int draw() {
        int sum = 0;
        for (int weight : WEIGHTS) {
            sum += weight;
        }
        int drawn = random.nextInt(sum);
        for (int kind = 0; kind < WEIGHTS.length; kind++) {
            drawn -= WEIGHTS[kind];
            if (drawn < 0) {
                return kind;
            }
        }
        return 0;
    }

    private int between(int low, int high) {
        return low + random.nextInt(high - low + 1);
    }

    private int argument(int kind, int number) {
        if (random.nextInt(100) < wildness) {
            return WILD[random.nextInt(WILD.length)];
        }
        int turbine = random.nextInt(Math.max(1, model.count(0)));
        switch (NAMES[kind]) {
            case "addTurbine": return number == 0 ? between(1, 99) : number == 1 ? between(50, 160) : between(1, 50);
            case "setFault": return number == 0 ? turbine : between(0, 4);
            case "setBog": return number == 0 ? 11 * between(1, 9) : between(0, 12);
            case "set": return number == 0 ? random.nextInt(7) : between(0, random.nextBoolean() ? 6 : 25);
            case "plan": return number == 0 ? turbine : between(0, model.count(5));
            case "unplan":
            case "orderBlade": return turbine;
            case "pass": return random.nextInt(4) == 0 ? between(1, 60) : between(1, 6);
            case "append": return nextCode();
            case "turbine": return number == 0 ? turbine : between(0, 10);
            case "blade": return number == 0 ? between(0, 5) : between(0, 1);
            case "bog": return number == 0 ? between(0, 3) : between(0, 1);
            case "claims": return between(0, 4);
            case "count": return between(0, 14);
            case "setting": return between(0, 6);
            case "way": return between(0, 99);
            case "ifPassed": return number == 0 ? between(1, 80) : between(0, 8);
            case "window": return number == 0 ? turbine : between(1, random.nextBoolean() ? 4 : 24);
            default: return 0;
        }
    }

    // Most texts are right, so that winds are loaded often; the program is told whole parts by and by.
    private int nextCode() {
        if (random.nextInt(12) == 0) {
            return between(33, 126);
        }
        if (text.length() == 0) {
            text.append(between(0, random.nextInt(5) == 0 ? 31 : 18));
            if (random.nextInt(3) == 0) {
                text.append('*').append(between(2, random.nextInt(5) == 0 ? 49 : 9));
            }
            text.append(random.nextInt(3) == 0 ? "" : ",");
        }
        char code = text.charAt(0);
        text.deleteCharAt(0);
        return code;
    }

    private String ofModel(int kind, int a, int b, int c) {
        try {
            return String.valueOf(askModel(kind, a, b, c));
        } catch (RuntimeException e) {
            return e.getClass().getName();
        }
    }

    private String ofProgram(int kind, int a, int b, int c) {
        try {
            return String.valueOf(askProgram(kind, a, b, c));
        } catch (RuntimeException e) {
            return e.getClass().getName();
        }
    }

    private long askModel(int kind, int a, int b, int c) {
        switch (NAMES[kind]) {
            case "addTurbine": return model.addTurbine(a, b, c);
            case "setFault": return model.setFault(a, b);
            case "setBog": return model.setBog(a, b);
            case "set": return model.set(a, b);
            case "plan": return model.plan(a, b);
            case "unplan": return model.unplan(a);
            case "orderBlade": return model.orderBlade(a);
            case "pass": return model.pass(a);
            case "append": return model.append(a);
            case "clearBuffer": return model.clearBuffer();
            case "firstError": return model.firstError();
            case "load": return model.load();
            case "undo": return model.undo();
            case "turbine": return model.turbine(a, b);
            case "blade": return model.blade(a, b);
            case "bog": return model.bog(a, b);
            case "claims": return model.claims(a);
            case "count": return model.count(a);
            case "setting": return model.setting(a);
            case "way": return model.way(a, b);
            case "ifPassed": return model.ifPassed(a, b);
            case "bestFirst": return model.bestFirst();
            case "window": return model.window(a, b);
            case "doneIn": return model.doneIn();
            case "meanWind": return Float.floatToIntBits(model.meanWind());
            case "lostShare": return Double.doubleToLongBits(model.lostShare());
            default: return model.digest();
        }
    }

    private long askProgram(int kind, int a, int b, int c) {
        switch (NAMES[kind]) {
            case "addTurbine": return program.addTurbine(a, b, c);
            case "setFault": return program.setFault(a, b);
            case "setBog": return program.setBog(a, b);
            case "set": return program.set(a, b);
            case "plan": return program.plan(a, b);
            case "unplan": return program.unplan(a);
            case "orderBlade": return program.orderBlade(a);
            case "pass": return program.pass(a);
            case "append": return program.append(a);
            case "clearBuffer": return program.clearBuffer();
            case "firstError": return program.firstError();
            case "load": return program.load();
            case "undo": return program.undo();
            case "turbine": return program.turbine(a, b);
            case "blade": return program.blade(a, b);
            case "bog": return program.bog(a, b);
            case "claims": return program.claims(a);
            case "count": return program.count(a);
            case "setting": return program.setting(a);
            case "way": return program.way(a, b);
            case "ifPassed": return program.ifPassed(a, b);
            case "bestFirst": return program.bestFirst();
            case "window": return program.window(a, b);
            case "doneIn": return program.doneIn();
            case "meanWind": return Float.floatToIntBits(program.meanWind());
            case "lostShare": return Double.doubleToLongBits(program.lostShare());
            default: return program.digest();
        }
    }
}
