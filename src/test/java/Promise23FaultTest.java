/** The cases of promise 23: fault, and what "Texts" says of it. */
public final class Promise23FaultTest extends Cases {
    // A command of each form, none of which is refused in the hall of ready().
    private static final String[] RIGHT = {"load 0 0;", "fill 0 1 2;", "go 1;", "split 0 1 1;",
        "join 0 1;", "offer 1 1 1 1 1;", "pass 1;"};
    private static final int[] CONSIGNMENTS = {0, 1, 2, 3, 4, 5, 6, 7, 8, 15, 16, 999};
    private static final int[] VEHICLES = {0, 1, 2, 3, 4, 999};

    public static void main(String[] args) {
        run(Promise23FaultTest.class, 23);
    }

    /** Parts 0 and 1 of one whole in the hall, vehicle 0 without a load, vehicle 1 with part 2. */
    private static FreightSplits ready() {
        FreightSplits x = new FreightSplits();
        x.consign(1, 9, 9, 0, 90, 9);
        x.split(0, 3, 3);
        x.split(0, 2, 2);
        Halls.addVehicles(x, 2, 20, 20);
        x.load(2, 1);
        return x;
    }

    private static void none(String text) {
        FreightSplits x = ready();
        Expect.typed(x, text);
        due("position in \"" + text + "\"", x.fault(0), NOT_FOUND);
        due("reason in \"" + text + "\"", x.fault(1), NOT_FOUND);
    }

    private static void faulty(FreightSplits x, String text, int position, int reason) {
        x.clearText();
        Expect.typed(x, text);
        due("position in \"" + text + "\"", x.fault(0), position);
        due("reason in \"" + text + "\"", x.fault(1), reason);
    }

    private static void faulty(String text, int position, int reason) {
        faulty(ready(), text, position, reason);
    }

    private static void noForm(String text) {
        faulty(text, 0, 1);
        faulty("pass 1;" + text, 7, 1);
    }

    // ---- the argument

    static void promise23WhatLeast() {
        edgeOfQuestion(() -> Halls.typed("pass 1;x"), (x, what) -> x.fault(what), 0, 7, -1);
    }

    static void promise23WhatMost() {
        edgeOfQuestion(() -> Halls.typed("pass 1;x"), (x, what) -> x.fault(what), 1, 1, 2);
    }

    static void promise23AnEmptyText() {
        unchanging(Halls::empty, x -> x.fault(0), NOT_FOUND);
        unchanging(Halls::empty, x -> x.fault(1), NOT_FOUND);
    }

    static void promise23ATextWithoutAFault() {
        unchanging(Halls::busy, x -> x.fault(0), NOT_FOUND);
        unchanging(Halls::busy, x -> x.fault(1), NOT_FOUND);
    }

    static void promise23AWrongWhatComesAheadOfNotFound() {
        unchanging(Halls::empty, x -> x.fault(-1), INVALID);
        unchanging(Halls::empty, x -> x.fault(2), INVALID);
        unchanging(Halls::busy, x -> x.fault(-1), INVALID);
        unchanging(Halls::busy, x -> x.fault(2), INVALID);
    }

    // ---- the form

    static void promise23EachCommandIsOfItsForm() {
        for (String right : RIGHT) {
            none(right);
        }
    }

    static void promise23OneCharacterAlone() {
        for (char c = 32; c <= 126; c++) {
            faulty(String.valueOf(c), 0, 1);
        }
    }

    static void promise23EachCommandCutAnywhere() {
        for (String right : RIGHT) {
            for (int length = 1; length < right.length(); length++) {
                noForm(right.substring(0, length));
            }
        }
    }

    static void promise23EachCommandWithoutOneOfItsLettersOrBlanks() {
        for (String right : RIGHT) {
            for (int i = 0; i < right.length(); i++) {
                boolean isDigit = right.charAt(i) >= '0' && right.charAt(i) <= '9';
                if (!isDigit) {
                    noForm(right.substring(0, i) + right.substring(i + 1));
                }
            }
        }
    }

    static void promise23EachCommandWithOneCharacterChanged() {
        for (String right : RIGHT) {
            for (int i = 0; i < right.length(); i++) {
                for (char other : new char[] {(char) (right.charAt(i) + 1), 'x', '~', '!'}) {
                    boolean isDigit = other >= '0' && other <= '9';
                    if (!isDigit) {
                        noForm(right.substring(0, i) + other + right.substring(i + 1));
                    }
                }
            }
        }
    }

    static void promise23EachCommandWithANumberOfNoDigits() {
        for (String right : RIGHT) {
            for (int i = 0; i < right.length(); i++) {
                boolean isDigit = right.charAt(i) >= '0' && right.charAt(i) <= '9';
                if (isDigit) {
                    noForm(right.substring(0, i) + right.substring(i + 1));
                }
            }
        }
    }

    static void promise23AnotherWordWithTheNumbersOfACommand() {
        noForm("lord 0 0;");
        noForm("full 0 1 2;");
        noForm("no 1;");
        noForm("spill 0 1 1;");
        noForm("coin 0 1;");
        noForm("often 1 1 1 1 1;");
        noForm("past 1;");
        noForm(" 1;");
        noForm(" 0 0;");
    }

    static void promise23EachCommandWithABlankTooMany() {
        for (String right : RIGHT) {
            for (int i = 0; i < right.length(); i++) {
                noForm(right.substring(0, i) + " " + right.substring(i));
            }
        }
    }

    static void promise23ABlankBetweenTwoCommands() {
        faulty("pass 1; pass 1;", 7, 1);
        faulty("pass 1; ", 7, 1);
    }

    static void promise23OneNumberTooMany() {
        for (String right : RIGHT) {
            noForm(right.replace(";", " 1;"));
        }
    }

    static void promise23OneNumberTooFew() {
        for (String right : RIGHT) {
            noForm(right.substring(0, right.lastIndexOf(' ')) + ";");
        }
    }

    static void promise23NoNumbersAtAll() {
        for (String right : RIGHT) {
            noForm(right.substring(0, right.indexOf(' ')) + ";");
        }
    }

    static void promise23NumbersOfOneToThreeDigits() {
        none("pass 1;");
        none("pass 01;");
        none("pass 001;");
        none("load 000 000;");
        none("fill 000 001 002;");
        none("go 001;");
        none("split 000 001 001;");
        none("join 000 001;");
        none("offer 001 001 001 001 001;");
    }

    static void promise23NumbersOfFourDigits() {
        noForm("pass 0001;");
        noForm("pass 1000;");
        noForm("load 0000 0;");
        noForm("load 0 0000;");
        noForm("fill 0 1 0002;");
        noForm("go 0001;");
        noForm("split 0 0001 1;");
        noForm("join 0 0001;");
        noForm("offer 1 1 1 0001 1;");
        noForm("offer 1 1 1 1 0001;");
    }

    static void promise23CharactersBesideTheDigits() {
        noForm("pass /;");
        noForm("pass :;");
        noForm("pass 1/;");
        noForm("pass 1:;");
        noForm("pass -1;");
        noForm("pass +1;");
        noForm("pass a;");
        noForm("pass 1.0;");
    }

    static void promise23CharactersBesideTheSemicolon() {
        noForm("pass 1:");
        noForm("pass 1<");
        noForm("pass 1,");
    }

    static void promise23OtherSignsForTheBlank() {
        noForm("pass!1;");
        noForm("pass_1;");
        noForm("load 0,0;");
    }

    static void promise23SemicolonsAlone() {
        noForm(";");
        noForm(";;");
        noForm(";pass 1;");
    }

    static void promise23CapitalsAndOtherWords() {
        for (String word : new String[] {"Pass 1;", "PASS 1;", "pasS 1;", "passs 1;", "pas 1;", "ppass 1;"}) {
            noForm(word);
        }
    }

    static void promise23WordsOfOtherCalls() {
        noForm("consign 1 1 1 1 1 1;");
        noForm("vehicle 1 1;");
        noForm("unload 0;");
        noForm("depart 0;");
        noForm("set 0 1;");
        noForm("undo;");
        noForm("play;");
        noForm("hopeless;");
    }

    static void promise23TheFormOfOneWordWithTheNumbersOfAnother() {
        noForm("load 0;");
        noForm("go 0 0;");
        noForm("fill 0 1;");
        noForm("split 0 1;");
        noForm("join 0 1 1;");
        noForm("offer 1 1 1;");
        noForm("pass 1 1;");
    }

    static void promise23TheFormComesAheadOfTheArguments() {
        faulty("pass 0", 0, 1);
        faulty("pass 100 ", 0, 1);
        faulty("go 9", 0, 1);
        faulty("load 99 99:", 0, 1);
    }

    static void promise23TheFormComesAheadOfTheState() {
        faulty("go 0", 0, 1);
        faulty("load 2 0", 0, 1);
    }

    // ---- a call that would return INVALID_ARGUMENT

    static void promise23WrongHoursToPass() {
        none("pass 99;");
        faulty("pass 0;", 0, 2);
        faulty("pass 000;", 0, 2);
        faulty("pass 100;", 0, 2);
        faulty("pass 999;", 0, 2);
    }

    static void promise23WrongArgumentsOfLoad() {
        faulty("load 3 0;", 0, 2);
        faulty("load 0 2;", 0, 2);
        faulty("load 16 0;", 0, 2);
        faulty("load 0 4;", 0, 2);
        faulty("load 2 2;", 0, 2);
        faulty("load 999 999;", 0, 2);
    }

    static void promise23WrongArgumentsOfFill() {
        faulty("fill 2 1 0;", 0, 2);
        faulty("fill 0 0 0;", 0, 2);
        faulty("fill 0 5 0;", 0, 2);
        faulty("fill 0 1 3;", 0, 2);
        none("fill 0 4 0;");
    }

    static void promise23WrongVehicleToGo() {
        faulty("go 2;", 0, 2);
        faulty("go 999;", 0, 2);
    }

    static void promise23WrongArgumentsOfSplit() {
        none("split 0 3 3;");
        faulty("split 3 1 1;", 0, 2);
        faulty("split 0 0 1;", 0, 2);
        faulty("split 0 4 1;", 0, 2);
        faulty("split 0 1 0;", 0, 2);
        faulty("split 0 1 4;", 0, 2);
        faulty("split 2 2 1;", 0, 2);
    }

    static void promise23WrongArgumentsOfJoin() {
        faulty("join 0 3;", 0, 2);
        faulty("join 3 0;", 0, 2);
        faulty("join 0 0;", 0, 2);
        faulty("join 0 1;join 0 1;", 9, 2);
    }

    static void promise23WrongArgumentsOfOffer() {
        none("offer 4 99 99 999 99;");
        none("offer 1 1 1 0 0;");
        faulty("offer 0 1 1 1 1;", 0, 2);
        faulty("offer 5 1 1 1 1;", 0, 2);
        faulty("offer 1 0 1 1 1;", 0, 2);
        faulty("offer 1 100 1 1 1;", 0, 2);
        faulty("offer 1 1 0 1 1;", 0, 2);
        faulty("offer 1 1 100 1 1;", 0, 2);
        faulty("offer 1 1 1 1 100;", 0, 2);
    }

    // ---- a call that would return another error

    static void promise23LoadThatIsNotPossible() {
        faulty("load 2 0;", 0, 3);
        faulty("load 2 1;", 0, 3);
        faulty("load 0 0;load 0 0;", 9, 3);
        faulty("go 1;load 0 1;", 5, 3);
    }

    static void promise23FillThatIsNotPossible() {
        faulty("go 1;fill 1 1 0;", 5, 3);
        faulty("go 1;pass 5;fill 1 1 0;", 12, 3);
        none("go 1;pass 6;fill 1 1 0;");
    }

    static void promise23GoThatIsNotPossible() {
        faulty("go 0;", 0, 3);
        faulty("go 1;go 1;", 5, 3);
    }

    static void promise23SplitThatIsNotPossible() {
        faulty("split 2 1 1;", 0, 3);
    }

    static void promise23SplitBeyondTheLimit() {
        FreightSplits x = ready();
        for (int i = 3; i < 16; i++) {
            x.consign(1, 5, 5, 0, 9, 1);
        }
        faulty(x, "split 15 1 1;", 0, 3);
        x.undo();
        faulty(x, "split 14 1 1;split 14 1 1;", 13, 3);
    }

    static void promise23JoinThatIsNotPossible() {
        faulty("join 0 2;", 0, 3);
        faulty("load 0 0;join 0 1;", 9, 3);
    }

    static void promise23OfferBeyondTheLimit() {
        FreightSplits x = ready();
        for (int i = 0; i < 9; i++) {
            x.offer(1, 1, 1, 1, 0);
        }
        faulty(x, "offer 1 1 1 1 1;offer 1 1 1 1 1;", 16, 3);
        x.offer(1, 1, 1, 1, 0);
        faulty(x, "offer 1 1 1 1 1;", 0, 3);
        faulty(x, "offer 5 1 1 1 1;", 0, 2);
        x.clearText();
        Expect.typed(x, "pass 1;offer 1 1 1 1 1;");
        due("they are gone an hour later", x.fault(0), NOT_FOUND);
    }

    static void promise23PassBeyondTheLimit() {
        FreightSplits x = Halls.at(8990);
        faulty(x, "pass 11;", 0, 3);
        faulty(x, "pass 10;pass 1;", 8, 3);
        faulty(x, "pass 10;pass 0;", 8, 2);
        x.clearText();
        Expect.typed(x, "pass 10;");
        due("up to the last hour", x.fault(0), NOT_FOUND);
    }

    /** Looks at the reason for a command by what the call itself returns. */
    private static void asTheCall(FreightSplits x, String command) {
        Halls.retyped(x, command + ";");
        int reason = x.fault(1);
        int position = x.fault(0);
        int answer = called(x, command.split(" "));
        int due = answer >= 0 ? NOT_FOUND : answer == INVALID ? 2 : 3;
        due("reason for " + command, reason, due);
        due("position of " + command, position, answer >= 0 ? NOT_FOUND : 0);
    }

    private static int called(FreightSplits x, String[] words) {
        int[] n = new int[words.length];
        for (int i = 1; i < words.length; i++) {
            n[i] = Integer.parseInt(words[i]);
        }
        return switch (words[0]) {
            case "load" -> x.load(n[1], n[2]);
            case "fill" -> x.fill(n[1], n[2], n[3]);
            case "go" -> x.depart(n[1]);
            case "split" -> x.split(n[1], n[2], n[3]);
            case "join" -> x.join(n[1], n[2]);
            case "offer" -> x.offer(n[1], n[2], n[3], n[4], n[5]);
            default -> x.pass(n[1]);
        };
    }

    private static void eachAsTheCall(String word, int[]... numbers) {
        int all = 1;
        for (int[] row : numbers) {
            all *= row.length;
        }
        for (int i = 0; i < all; i++) {
            StringBuilder command = new StringBuilder(word);
            int left = i;
            for (int[] row : numbers) {
                command.append(' ').append(row[left % row.length]);
                left /= row.length;
            }
            asTheCall(Halls.busy(), command.toString());
            asTheCall(Halls.full(), command.toString());
            asTheCall(Halls.fullyLoaded(), command.toString());
        }
    }

    static void promise23LoadIsAsTheCall() {
        eachAsTheCall("load", CONSIGNMENTS, VEHICLES);
    }

    static void promise23FillIsAsTheCall() {
        eachAsTheCall("fill", VEHICLES, new int[] {0, 1, 2, 4, 5}, new int[] {0, 2, 3});
    }

    static void promise23GoIsAsTheCall() {
        eachAsTheCall("go", VEHICLES);
    }

    static void promise23SplitIsAsTheCall() {
        eachAsTheCall("split", CONSIGNMENTS, new int[] {0, 1, 4, 5, 9, 10}, new int[] {0, 1, 4, 5, 9, 10});
    }

    static void promise23JoinIsAsTheCall() {
        eachAsTheCall("join", CONSIGNMENTS, CONSIGNMENTS);
    }

    static void promise23OfferIsAsTheCall() {
        eachAsTheCall("offer", new int[] {0, 1, 4, 5}, new int[] {0, 1, 99, 100}, new int[] {0, 1, 99, 100},
                new int[] {0, 999}, new int[] {0, 99, 100});
    }

    static void promise23PassIsAsTheCall() {
        eachAsTheCall("pass", new int[] {0, 1, 99, 100, 999});
        for (int hours : new int[] {0, 1, 10, 11, 99, 100}) {
            asTheCall(Halls.at(8990), "pass " + hours);
        }
    }

    // ---- where it is

    static void promise23TheFirstFaultCounts() {
        faulty("pass 0;go 0;x", 0, 2);
        faulty("go 0;pass 0;x", 0, 3);
        faulty("x;go 0;pass 0;", 0, 1);
        faulty("pass 1;go 0;pass 0;", 7, 3);
        faulty("pass 1;pass 0;go 0;", 7, 2);
        faulty("pass 1;pass 2;pass 3;x", 21, 1);
    }

    static void promise23ThoseAheadOfItAreDone() {
        none("load 0 0;go 0;");
        none("split 0 1 1;join 0 3;");
        none("go 1;pass 6;load 0 1;go 1;");
        faulty("load 0 0;go 0;pass 5;load 1 0;", 21, 3);
        faulty("split 0 1 1;split 3 1 1;", 12, 2);
    }

    static void promise23AtTheLastCharacter() {
        String ahead = "pass 1;".repeat(9) + "pass 01;".repeat(2);
        faulty(ahead + "x", 79, 1);
        faulty(ahead + "p", 79, 1);
        faulty(ahead + ";", 79, 1);
    }

    static void promise23AFullTextWithoutAFault() {
        none("pass 1;".repeat(8) + "pass 01;".repeat(3));
        none("offer 1 1 1 1 1;".repeat(5));
    }

    static void promise23AFullTextOfOneFault() {
        faulty("a".repeat(80), 0, 1);
        faulty(" ".repeat(80), 0, 1);
        faulty(";".repeat(80), 0, 1);
        faulty("pass " + "0".repeat(75), 0, 1);
    }

    static void promise23AFullTextThatIsCutInItsLastCommand() {
        faulty("pass 1;".repeat(10) + "pass 00001", 70, 1);
        faulty("pass 1;".repeat(10) + "load 00 00", 70, 1);
        faulty("pass 1;".repeat(9) + "offer 1 1 1 1 001", 63, 1);
    }

    static void promise23ItChangesNothing() {
        unchanging(() -> Halls.retyped(Halls.busy(), "pass 9;go 1;"), x -> x.fault(0), 7);
        unchanging(() -> Halls.retyped(Halls.busy(), "pass 9;go 1;"), x -> x.fault(1), 3);
    }

    static void promise23ItIsOfTheStateOfNow() {
        FreightSplits x = ready();
        Expect.typed(x, "go 0;");
        due("without a load", x.fault(1), 3);
        x.load(0, 0);
        due("with one", x.fault(1), NOT_FOUND);
        x.undo();
        due("without one again", x.fault(1), 3);
    }
}
