/** The boundary cases of the input text and of the promises 10 to 13: append, clearBuffer, firstError, load. */
final class TextEdges {
    private static final String FULL = "30*48,30*48,30*48,30*48,30*48,30*48,30*48,30*48,30*48,30*48,";

    private TextEdges() {
    }

    static void run() {
        Edge.of("Input text", "The buffer has at most 60 characters.", TextEdges::sixtyCharacters);
        Edge.of("Input text", "A wind row is one or more parts separated by \",\", each one a number, 0 to 30, and "
                + "possibly \"*\" and how often, 2 to 48, all without leading zeros.", TextEdges::windRows);
        Edge.of("Input text", "The buffer is read from left to right; a character is a syntax error if no wind row, "
                + "of any length, begins with the characters before it and this character.", TextEdges::syntaxErrors);
        append();
        clearBuffer();
        Edge.of("Promise 12", "Returns the index of the first character that is a syntax error; the length of the "
                + "buffer if there is none.", TextEdges::firstErrors);
        load();
    }

    private static CraneCampaign with(String text) {
        return Farms.write(new CraneCampaign(), text);
    }

    private static void sixtyCharacters() {
        CraneCampaign farm = new CraneCampaign();
        for (int i = 1; i <= 60; i++) {
            Check.due("the length", i, farm.append('7'));
        }
        Edge.refused(farm, "the character 61", Edge.STATE, () -> farm.append('7'));
        Check.due("60 characters are cleared", 60, farm.clearBuffer());
        Check.due("there is room again", 1, farm.append('7'));
        String[] ends = {"11,1*2", "1,2,11", "1*2,22"};
        for (String end : ends) {
            CraneCampaign loaded = with("1,2,3,4,5,6,7,8,9,1,2,3,4,5,6,7,8,9,1,2,3,4,5,6,7,8,9," + end);
            Check.due("no error in 60 characters with the end " + end, 60, loaded.firstError());
            Check.due("a row of 60 characters with the end " + end, 30, loaded.load());
            Check.due("there is room behind load", 1, loaded.append('7'));
        }
    }

    private static boolean isRow(String text) {
        try {
            with(text).load();
            return true;
        } catch (IllegalArgumentException e) {
            return false;
        }
    }

    private static void windRows() {
        for (int number = 0; number <= 110; number++) {
            Check.dueTrue("the number " + number, isRow("" + number) == (number <= 30));
            Check.dueTrue("the number 0" + number, !isRow("0" + number));
            Check.dueTrue("the second number " + number, isRow("7," + number) == (number <= 30));
            Check.dueTrue("how often: " + number, isRow("7*" + number) == (number >= 2 && number <= 48));
            Check.dueTrue("how often: 0" + number, !isRow("7*0" + number));
        }
        String[] right = {"0,0", "30,30", "0*2,30*46", "5*2,5", "5,5*2", "30*48"};
        for (String text : right) {
            Check.dueTrue("the row " + text, isRow(text));
        }
        String[] wrong = {"", ",", "*", "5,", ",5", "5,,5", "5*", "*5", "5**2", "5*2*2", "5*,5", "5*2,", "5;5", "-5", "+5",
            "5.0", "5*2.", "x", "5x", "5*x", "/", ":", "5*/", "5*:"};
        for (String text : wrong) {
            Check.dueTrue("the text " + text + " as no row", !isRow(text));
        }
    }

    private static void errorAt(String text, int index) {
        CraneCampaign farm = with(text);
        Check.due("firstError of " + text, index, farm.firstError());
        Check.due("the length of " + text, text.length(), farm.clearBuffer());
    }

    private static void syntaxErrors() {
        // Behind each beginning all signs are tried: those that are told may follow, the others are errors.
        String[][] beginnings = {
            {"", "0123456789"}, {"0", ",*"}, {"1", "0123456789,*"}, {"2", "0123456789,*"}, {"3", "0,*"}, {"4", ",*"},
            {"9", ",*"}, {"10", ",*"}, {"29", ",*"}, {"30", ",*"}, {"5,", "0123456789"}, {"5,3", "0,*"},
            {"5*", "123456789"}, {"5*1", "0123456789"}, {"5*2", "0123456789,"}, {"5*3", "0123456789,"},
            {"5*4", "012345678,"}, {"5*5", ","}, {"5*9", ","}, {"5*10", ","}, {"5*48", ","}, {"5*39", ","},
            {"5*2,", "0123456789"}, {"30*48,30*48,30*48,3", "0,*"},
        };
        for (String[] row : beginnings) {
            for (char code = 33; code <= 126; code++) {
                int right = row[1].indexOf(code) >= 0 ? 1 : 0;
                errorAt(row[0] + code, row[0].length() + right);
            }
        }
    }

    private static void firstErrors() {
        errorAt("", 0);
        errorAt("x", 0);
        errorAt("5", 1);
        errorAt("5,", 2);
        errorAt("5*", 2);
        errorAt("5*1", 3);
        errorAt("xx", 0);
        errorAt("x5", 0);
        errorAt("5x,5x", 1);
        errorAt("31,", 1);
        errorAt("31,01", 1);
        errorAt("5,31,5", 3);
        errorAt(FULL, 60);
        errorAt(FULL.substring(0, 59) + "*", 59);
        errorAt(FULL.substring(0, 59) + "0", 59);
        CraneCampaign farm = with("5,");
        farm.append('x');
        Check.due("the error is the last character", 2, farm.firstError());
        farm.append('5');
        Check.due("it stays the first one", 2, farm.firstError());
        farm.clearBuffer();
        Check.due("none in an empty buffer", 0, farm.firstError());
        farm.append('5');
        Check.due("none in the new text", 1, farm.firstError());
    }

    private static void append() {
        Edge.of("Promise 10", "code: the character code, 33 to 126", () -> {
            Edge.range(33, 126, Edge.ARGUMENT, CraneCampaign::new, (farm, code) -> farm.append(code));
            for (int code = 33; code <= 126; code++) {
                CraneCampaign farm = new CraneCampaign();
                farm.append(code);
                Check.due("the digest tells the code " + code, Digest.of(farm, "" + (char) code), farm.digest());
            }
        });
        Edge.of("Promise 10", "Returns the new length of the buffer.", () -> {
            CraneCampaign farm = new CraneCampaign();
            for (int length = 1; length <= 60; length++) {
                Check.due("the length", length, farm.append(33 + length));
            }
        });
        Edge.of("Promise 10", "Throws IllegalArgumentException if code is not 33 to 126", () -> {
            CraneCampaign farm = Farms.inUse();
            for (int code : new int[] {32, 127, 0, -1, 10, 255, 256 + 65, 65536 + 65, Integer.MIN_VALUE,
                Integer.MAX_VALUE}) {
                Edge.refused(farm, "append(" + code + ")", Edge.ARGUMENT, () -> farm.append(code));
            }
        });
        Edge.of("Promise 10", "Throws IllegalStateException if the buffer has 60 characters", () -> {
            CraneCampaign farm = with(FULL.substring(0, 59));
            Check.due("the last one", 60, farm.append(','));
            for (int code : new int[] {33, '7', 126}) {
                Edge.refused(farm, "append(" + code + ")", Edge.STATE, () -> farm.append(code));
            }
        });
    }

    private static void clearBuffer() {
        Edge.of("Promise 11", "Clears the buffer.", () -> {
            CraneCampaign farm = Farms.inUse();
            int states = farm.count(14);
            farm.clearBuffer();
            Check.due("the digest without a text", Digest.of(farm, ""), farm.digest());
            Check.due("it saves no state", states, farm.count(14));
        });
        Edge.of("Promise 11", "Returns the length that it had.", () -> {
            CraneCampaign farm = new CraneCampaign();
            int[] lengths = {0, 1, 59, 60};
            for (int length : lengths) {
                Farms.write(farm, FULL.substring(0, length));
                Check.due("the length", length, farm.clearBuffer());
                Check.due("the length then", 0, farm.clearBuffer());
            }
        });
    }

    private static void load() {
        Edge.of("Promise 13", "Replaces the winds by those in the buffer, and clears the buffer.",
                TextEdges::replacedWinds);
        Edge.of("Promise 13", "Undoable.", () -> {
            CraneCampaign farm = Farms.inUse();
            farm.clearBuffer();
            long before = farm.digest();
            int states = farm.count(14);
            Farms.write(farm, "20,21").load();
            Check.due("saved states", states + 1, farm.count(14));
            Check.dueTrue("it changes something", farm.digest() != before);
            Check.due("undo", states, farm.undo());
            Check.due("the digest after undo; the buffer stays empty", before, farm.digest());
            CraneCampaign first = with("20,21");
            first.load();
            first.undo();
            Check.due("no winds again", 0, first.count(4));
        });
        Edge.of("Promise 13", "Returns how many numbers the row has then.", () -> {
            String[] texts = {"0", "7*2", "7,7", "7*48", "7*24,8*24", "1,2*46,3", "30*47,0"};
            int[] numbers = {1, 2, 2, 48, 48, 48, 48};
            for (int i = 0; i < texts.length; i++) {
                CraneCampaign farm = with(texts[i]);
                Check.due("load of " + texts[i], numbers[i], farm.load());
                Check.due("numbers in the row", numbers[i], farm.count(4));
            }
            CraneCampaign again = with("7*48");
            again.load();
            Check.due("the row 5 behind the row 7*48", 1, Farms.write(again, "5").load());
            Check.due("the row 12 behind it", 1, Farms.write(again, "12").load());
            Check.due("the row 5,6*3 behind it", 4, Farms.write(again, "5,6*3").load());
            Check.due("the row 3*2 behind it", 2, Farms.write(again, "3*2").load());
        });
        Edge.of("Promise 13", "Throws IllegalArgumentException if the buffer is not a complete wind row", () -> {
            String[] wrong = {"", "5,", "5*", "5*1", "x", "31", "01", "5*0", "5*49", "5*2*2", "5,,5", "5*2,", FULL};
            for (String text : wrong) {
                CraneCampaign farm = Farms.inUse();
                farm.clearBuffer();
                Farms.write(farm, text);
                Edge.refused(farm, "load of " + text, Edge.ARGUMENT, () -> farm.load());
            }
        });
        Edge.of("Promise 13", "Throws IllegalStateException if the row would have more than 48 numbers", () -> {
            String[] wrong = {"7*48,8", "8,7*48", "7*47,8*2", "7*47,8,9", "7*25,8*24", FULL.substring(0, 59)};
            for (String text : wrong) {
                CraneCampaign farm = Farms.inUse();
                farm.clearBuffer();
                Farms.write(farm, text);
                Edge.refused(farm, "load of " + text, Edge.STATE, () -> farm.load());
            }
        });
    }

    private static void replacedWinds() {
        CraneCampaign farm = Farms.withOne();
        String[] texts = {"9*48", "3,4", "5", "0,30"};
        int[][] winds = {{9, 9, 9}, {4, 3, 4}, {5, 5, 5}, {30, 0, 30}};
        for (int i = 0; i < texts.length; i++) {
            Farms.write(farm, texts[i]).load();
            Check.due("the buffer is cleared", 0, farm.firstError());
            Check.due("its length", 0, farm.clearBuffer());
            for (int hour = 0; hour < 3; hour++) {
                Check.due("the wind of " + texts[i] + " in the hour " + farm.count(2), winds[i][hour], farm.count(3));
                farm.pass(1);
            }
        }
    }
}
