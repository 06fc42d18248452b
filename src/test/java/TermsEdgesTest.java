/** The boundary cases that the document names ahead of its promises. */
public final class TermsEdgesTest {
    private static final Edges EDGES = new Edges();
    private static final Checks CHECKS = EDGES.checks;
    private static final int CALLS = 512;

    public static void main(String[] args) {
        calls();
        persons();
        tablets();
        lines();
        smoothing();
        heat();
        years();
        EDGES.holds("Terms", "A method that throws an exception changes nothing.",
                TermsEdgesTest::refusedCallsOfABusyBank);
        CHECKS.close("TermsEdgesTest");
    }

    // ---- 512 calls

    private static void calls() {
        String sentence = "An object is used for at most 512 calls after it has been made";
        EDGES.holds("What it is", sentence, TermsEdgesTest::yearsOfAllCalls);
        EDGES.holds("What it is", sentence, TermsEdgesTest::amountsOfAllCalls);
        EDGES.holds("What it is", sentence, TermsEdgesTest::linesOfAllCalls);
    }

    private static void yearsOfAllCalls() {
        TallyWax bank = Banks.with(1);
        bank.setHeat(0, 2);
        for (int call = 3; call < CALLS; call++) {
            bank.pass(40);
        }
        CHECKS.equal("the 512th call, year()", 20360, bank.year());
    }

    private static void amountsOfAllCalls() {
        TallyWax bank = Banks.with(1);
        int calls = 1;
        int owed = 0;
        while (calls < CALLS - 6) {
            if (bank.linesOf(0) == 12) {
                bank.smooth(0);
            } else {
                bank.write(0, 0, 1, 999, 2);
                owed += 999;
            }
            calls += 2;
        }
        bank.smooth(0);
        bank.turn(2);
        CHECKS.equal("total() of many smoothings", owed, bank.total());
        CHECKS.equal("deny of the amount of many smoothings", owed, bank.deny(0, 0));
        CHECKS.equal("denied() of many smoothings", owed, bank.denied());
    }

    private static void linesOfAllCalls() {
        TallyWax bank = Banks.with(1);
        for (int call = 2; call < CALLS; call += 2) {
            CHECKS.equal("write, where each is paid", 0, bank.write(0, 0, 1, 1, 2));
            bank.pay(0, 0, 1);
        }
        CHECKS.equal("the 512th call, lines()", 0, bank.lines());
    }

    // ---- persons and tablets

    private static void persons() {
        EDGES.holds("Terms", "There are 8, numbered from 0; each is there (at first) or gone.", () -> {
            EDGES.bounds(Edges.INDEX, TallyWax::new, 0, 7, "isThere", (bank, person) ->
                    CHECKS.equal("isThere(" + person + ") at first", true, bank.isThere(person)));
            EDGES.bounds(Edges.INDEX, TallyWax::new, 0, 7, "turn", (bank, person) ->
                    CHECKS.equal("turn(" + person + ") at first", false, bank.turn(person)));
        });
    }

    private static void tablets() {
        EDGES.holds("Terms", "At most 8, numbered from 0;", () -> {
            TallyWax bank = new TallyWax();
            for (int number = 0; number < 8; number++) {
                CHECKS.equal("addTablet(5)", number, bank.addTablet(5));
                CHECKS.equal("linesOf the new one", 0, bank.linesOf(number));
            }
            CHECKS.equal("write on the eighth", 0, bank.write(7, 0, 1, 10, 2));
            EDGES.refuses(Edges.STATE, () -> Banks.withTablets(8), "a ninth addTablet", full -> full.addTablet(5));
        });
        EDGES.holds("Terms", "each has a hardness, 1 to 9,", () ->
                EDGES.bounds(Edges.ARGUMENT, TallyWax::new, 1, 9, "addTablet", TermsEdgesTest::hardnessHoldsOut));
        EDGES.holds("Terms", "lies in the cellar or not (not, at first)", () -> {
            TallyWax bank = Banks.with(1, 9);
            CHECKS.equal("isInCellar(0) at first", false, bank.isInCellar(0));
            CHECKS.equal("isInCellar(1) at first", false, bank.isInCellar(1));
            CHECKS.equal("carry(1)", true, bank.carry(1));
            CHECKS.equal("isInCellar(0), carried 1", false, bank.isInCellar(0));
            CHECKS.equal("isInCellar(1), carried", true, bank.isInCellar(1));
        });
    }

    /** A tablet of this hardness holds out as much heat, and melts by 1 more, if there is so much. */
    private static void hardnessHoldsOut(TallyWax bank, int hardness) {
        bank.addTablet(hardness);
        bank.write(0, 0, 1, 10, 2);
        for (int heat = 0; heat <= 9; heat++) {
            bank.setHeat(0, heat);
            String what = "yearsUntilMelted of hardness " + hardness + " by heat " + heat;
            CHECKS.equal(what, heat > hardness ? 1 : -1, bank.yearsUntilMelted(0));
        }
    }

    // ---- lines

    private static void lines() {
        EDGES.holds("Terms", "has at most 12 lines, numbered from 0, in the order in which they were written",
                TermsEdgesTest::twelveLines);
        EDGES.holds("Terms", "As a line goes, those behind it are one number farther ahead.",
                TermsEdgesTest::eachOfTwelveGoes);
        EDGES.holds("Terms", "As a line goes, those behind it are one number farther ahead.",
                TermsEdgesTest::theOnlyLineGoes);
        EDGES.holds("Terms", "an amount, 1 to 999 as it is written by hand", TermsEdgesTest::amountsByHand);
        EDGES.holds("Terms", "and a witness, who is neither of both.", () -> {
            busyRefuses(Edges.ARGUMENT, "write witnessed by its debtor", bank -> bank.write(0, 0, 1, 1, 0));
            busyRefuses(Edges.ARGUMENT, "write witnessed by its creditor", bank -> bank.write(0, 0, 1, 1, 1));
        });
        EDGES.holds("Terms", "A line is witnessed as long as its witness is there.", TermsEdgesTest::witnessed);
        EDGES.holds("Terms", "the amounts of all its lines in which it is the creditor, "
                + "less those in which it is the debtor.", TermsEdgesTest::whatAPersonHas);
    }

    private static void twelveLines() {
        TallyWax bank = Banks.with(5, 5);
        StringBuilder due = new StringBuilder();
        for (int line = 0; line < 12; line++) {
            CHECKS.equal("write", line, bank.write(0, line % 8, (line + 3) % 8, 12 - line, (line + 1) % 8));
            due.append(line == 0 ? "" : " ").append(line % 8);
            due.append('>').append((line + 3) % 8).append(':').append(12 - line);
        }
        CHECKS.equal("twelve lines", due.toString(), Banks.linesOn(bank, 0));
        CHECKS.equal("write on another tablet", 0, bank.write(1, 0, 1, 5, 2));
        EDGES.refuses(Edges.STATE, () -> Banks.withLines(12), "a thirteenth write", full -> full.write(0, 0, 1, 5, 2));
    }

    private static void eachOfTwelveGoes() {
        for (int gone = 0; gone < 12; gone++) {
            TallyWax paid = Banks.withLines(12);
            paid.pay(0, gone, 10 + gone);
            CHECKS.equal("lines with " + gone + " paid", linesWithout(gone), Banks.linesOn(paid, 0));
            CHECKS.equal("witness behind " + gone + " paid", gone < 11 ? 6 : 7, witnessBehind(gone, true));
            TallyWax denied = Banks.withLines(12);
            denied.deny(0, gone);
            CHECKS.equal("lines with " + gone + " denied", linesWithout(gone), Banks.linesOn(denied, 0));
            CHECKS.equal("witness behind " + gone + " denied", gone < 11 ? 6 : 7, witnessBehind(gone, false));
        }
    }

    /** What Banks.withLines(12) has but for one of its lines. */
    private static String linesWithout(int gone) {
        StringBuilder due = new StringBuilder();
        for (int line = 0; line < 12; line++) {
            if (line != gone) {
                due.append(due.length() == 0 ? "" : " ").append(line % 3);
                due.append('>').append(3 + line % 3).append(':').append(10 + line);
            }
        }
        return due.toString();
    }

    /** Of twelve lines 6 witnesses the last alone; who witnesses the last of those that stay? */
    private static int witnessBehind(int gone, boolean paid) {
        TallyWax bank = Banks.with(5);
        for (int line = 0; line < 12; line++) {
            bank.write(0, 0, 1, 3, line < 11 ? 7 : 6);
        }
        if (paid) {
            bank.pay(0, gone, 3);
        } else {
            int witness = gone < 11 ? 7 : 6;
            bank.turn(witness);
            bank.deny(0, gone);
            bank.turn(witness);
        }
        return Banks.witnessOf(bank, 0, 10);
    }

    private static void theOnlyLineGoes() {
        TallyWax bank = Banks.withLines(1);
        bank.deny(0, 0);
        CHECKS.equal("linesOf(0) after the only line has gone", 0, bank.linesOf(0));
        CHECKS.equal("write after the only line has gone", 0, bank.write(0, 4, 5, 6, 1));
        CHECKS.equal("the line written then", "4>5:6", Banks.linesOn(bank, 0));
    }

    private static void amountsByHand() {
        EDGES.bounds(Edges.ARGUMENT, Banks::busy, 1, 999, "write of amount", (bank, amount) -> {
            int line = bank.write(0, 0, 1, amount, 2);
            CHECKS.equal("amountOf what was written", amount, bank.amountOf(0, line));
        });
        TallyWax bank = Banks.with(5);
        bank.write(0, 0, 1, 999, 2);
        bank.write(0, 0, 1, 1, 2);
        CHECKS.equal("smooth to one line above 999", 1, bank.smooth(0));
        CHECKS.equal("amountOf what is smoothed, not written by hand", 1000, bank.amountOf(0, 0));
    }

    private static void witnessed() {
        for (int witness : new int[] {0, 7}) {
            TallyWax bank = Banks.with(5);
            bank.write(0, 3, 4, 10, witness);
            Banks.turnAll(bank, 1, 2, 3, 4, 5, 6);
            CHECKS.equal("isWitnessed with the others gone", true, bank.isWitnessed(0, 0));
            bank.turn(witness);
            CHECKS.equal("isWitnessed with the witness gone", false, bank.isWitnessed(0, 0));
            bank.turn(witness);
            CHECKS.equal("isWitnessed with the witness back", true, bank.isWitnessed(0, 0));
        }
    }

    private static void whatAPersonHas() {
        TallyWax bank = Banks.with(5, 5);
        for (int person = 0; person < 8; person++) {
            CHECKS.equal("hasOn(0, " + person + ") without lines", 0, bank.hasOn(0, person));
        }
        bank.write(0, 0, 7, 999, 3);
        bank.write(0, 7, 0, 998, 3);
        bank.write(1, 7, 0, 500, 3);
        CHECKS.equal("hasOn(0, 0), less by 1", -1, bank.hasOn(0, 0));
        CHECKS.equal("hasOn(0, 7), more by 1", 1, bank.hasOn(0, 7));
        CHECKS.equal("hasOn(0, 3), the witness", 0, bank.hasOn(0, 3));
    }

    // ---- smoothing

    private static void smoothing() {
        EDGES.holds("Terms", "as long as somebody has less than 0", TermsEdgesTest::somebodyHasLess);
        EDGES.holds("Terms", "the debtor is the person that has the least then, the creditor the one that has the most",
                TermsEdgesTest::leastAndMost);
        EDGES.holds("Terms", "of several the smallest number each", TermsEdgesTest::severalDebtors);
        EDGES.holds("Terms", "of several the smallest number each", TermsEdgesTest::severalCreditors);
        EDGES.holds("Terms", "of several the smallest number each", TermsEdgesTest::severalOnTheWay);
        EDGES.holds("Terms", "the amount is as much as makes one of both have 0", TermsEdgesTest::amountOfNewLine);
        EDGES.holds("Terms", "the new line counts as paid for that: the debtor has so much more then, "
                + "the creditor so much less.", TermsEdgesTest::newLineCountsAsPaid);
        EDGES.holds("Terms", "The witness of each new line is the person with the smallest number that is there, "
                + "and is neither its debtor nor its creditor", TermsEdgesTest::witnessOfNewLine);
        EDGES.holds("Terms", "if there is none for one of them, the smoothing is refused", TermsEdgesTest::noWitness);
        EDGES.holds("Terms", "if there is none for one of them, the smoothing is refused",
                TermsEdgesTest::nobodyThereAndNoLineNeeded);
    }

    private static void somebodyHasLess() {
        TallyWax even = Banks.with(5);
        even.write(0, 0, 1, 7, 2);
        even.write(0, 1, 2, 7, 3);
        even.write(0, 2, 0, 7, 1);
        CHECKS.equal("smooth where all have 0", 0, even.smooth(0));
        TallyWax odd = Banks.with(5);
        odd.write(0, 0, 1, 7, 2);
        odd.write(0, 1, 0, 8, 2);
        CHECKS.equal("smooth where one has 1 less", 1, odd.smooth(0));
        CHECKS.equal("the line of 1", "1>0:1", Banks.linesOn(odd, 0));
        TallyWax empty = Banks.with(5);
        CHECKS.equal("smooth without lines", 0, empty.smooth(0));
    }

    private static void leastAndMost() {
        TallyWax bank = Banks.with(5);
        bank.write(0, 0, 3, 10, 7);
        bank.write(0, 1, 4, 12, 7);
        bank.write(0, 2, 5, 11, 7);
        CHECKS.equal("smooth", 3, bank.smooth(0));
        CHECKS.equal("the least and the most first", "1>4:12 2>5:11 0>3:10", Banks.linesOn(bank, 0));
    }

    private static void severalDebtors() {
        TallyWax bank = Banks.with(5);
        bank.write(0, 7, 3, 5, 1);
        bank.write(0, 6, 3, 5, 1);
        bank.write(0, 0, 3, 5, 1);
        CHECKS.equal("smooth", 3, bank.smooth(0));
        CHECKS.equal("of several debtors 0, 6, 7", "0>3:5 6>3:5 7>3:5", Banks.linesOn(bank, 0));
    }

    private static void severalCreditors() {
        TallyWax bank = Banks.with(5);
        bank.write(0, 3, 7, 5, 1);
        bank.write(0, 3, 6, 5, 1);
        bank.write(0, 3, 0, 5, 1);
        CHECKS.equal("smooth", 3, bank.smooth(0));
        CHECKS.equal("of several creditors 0, 6, 7", "3>0:5 3>6:5 3>7:5", Banks.linesOn(bank, 0));
    }

    /** Here two have as much, or as little, only after the first new line. */
    private static void severalOnTheWay() {
        TallyWax creditors = Banks.with(5);
        creditors.write(0, 7, 6, 5, 0);
        creditors.write(0, 2, 6, 4, 0);
        creditors.write(0, 1, 3, 4, 0);
        CHECKS.equal("smooth", 3, creditors.smooth(0));
        CHECKS.equal("6 and 3 have 4 then", "7>6:5 1>3:4 2>6:4", Banks.linesOn(creditors, 0));
        TallyWax debtors = Banks.with(5);
        debtors.write(0, 7, 6, 5, 0);
        debtors.write(0, 7, 3, 4, 0);
        debtors.write(0, 2, 1, 4, 0);
        CHECKS.equal("smooth", 3, debtors.smooth(0));
        CHECKS.equal("7 and 2 have 4 less than 0 then", "7>6:5 2>1:4 7>3:4", Banks.linesOn(debtors, 0));
    }

    private static void amountOfNewLine() {
        TallyWax debtorHasLess = Banks.with(5);
        debtorHasLess.write(0, 2, 1, 2, 7);
        debtorHasLess.write(0, 0, 1, 3, 7);
        debtorHasLess.smooth(0);
        CHECKS.equal("as much as the debtor owes", "0>1:3 2>1:2", Banks.linesOn(debtorHasLess, 0));
        TallyWax creditorHasLess = Banks.with(5);
        creditorHasLess.write(0, 0, 2, 2, 7);
        creditorHasLess.write(0, 0, 1, 3, 7);
        creditorHasLess.smooth(0);
        CHECKS.equal("as much as the creditor has", "0>1:3 0>2:2", Banks.linesOn(creditorHasLess, 0));
        TallyWax bothAlike = Banks.with(5);
        bothAlike.write(0, 0, 1, 3, 7);
        bothAlike.write(0, 0, 1, 2, 7);
        bothAlike.smooth(0);
        CHECKS.equal("as much as both", "0>1:5", Banks.linesOn(bothAlike, 0));
    }

    private static void newLineCountsAsPaid() {
        TallyWax bank = Banks.with(5);
        bank.write(0, 0, 2, 2, 7);
        bank.write(0, 3, 2, 5, 7);
        bank.write(0, 0, 1, 8, 7);
        bank.smooth(0);
        CHECKS.equal("0 owes 2 less than 3 does, after its first line", "0>1:8 3>2:5 0>2:2", Banks.linesOn(bank, 0));
        int[] due = {-10, 8, 7, -5, 0, 0, 0, 0};
        for (int person = 0; person < 8; person++) {
            CHECKS.equal("hasOn(0, " + person + ") after smoothing", due[person], bank.hasOn(0, person));
        }
    }

    private static void witnessOfNewLine() {
        newLineIsWitnessedBy(0, 1, 2);
        newLineIsWitnessedBy(0, 2, 1);
        newLineIsWitnessedBy(1, 0, 2);
        newLineIsWitnessedBy(1, 2, 0);
        newLineIsWitnessedBy(2, 0, 1);
        newLineIsWitnessedBy(2, 1, 0);
        newLineIsWitnessedBy(3, 0, 2, 1);
        newLineIsWitnessedBy(3, 0, 1, 2);
        newLineIsWitnessedBy(4, 0, 3, 1, 2);
        newLineIsWitnessedBy(7, 0, 1, 2, 3, 4, 5, 6);
        newLineIsWitnessedBy(7, 0, 1, 0, 1, 2, 3, 4, 5, 6);
        newLineIsWitnessedBy(0, 6, 7, 1, 2, 3, 4, 5, 6, 7);
        newLineIsWitnessedBy(5, 7, 6, 0, 1, 2, 3, 4);
    }

    private static void newLineIsWitnessedBy(int due, int debtor, int creditor, int... gone) {
        TallyWax bank = Banks.with(5);
        int other = 0;
        while (other == debtor || other == creditor) {
            other++;
        }
        bank.write(0, debtor, creditor, 10, other);
        Banks.turnAll(bank, gone);
        bank.smooth(0);
        String what = "witness of " + Banks.linesOn(bank, 0) + " with " + gone.length + " gone";
        CHECKS.equal(what, due, Banks.witnessOf(bank, 0, 0));
    }

    private static void noWitness() {
        int[][] goneEach = {
            {2, 3, 4, 5, 6, 7}, {1, 2, 3, 4, 5, 6, 7}, {0, 2, 3, 4, 5, 6, 7}, {0, 1, 2, 3, 4, 5, 6, 7},
        };
        for (int[] gone : goneEach) {
            EDGES.refuses(Edges.STATE, () -> oneOwesAnother(gone), "smooth, no witness for the only line, "
                    + gone.length + " gone", bank -> bank.smooth(0));
        }
        EDGES.refuses(Edges.STATE, () -> twoOweOthers(0, 1, 3, 4, 5, 6, 7), "smooth, no witness for the last line",
                bank -> bank.smooth(0));
        EDGES.refuses(Edges.STATE, () -> twoOweOthers(1, 2, 3, 4, 5, 6, 7), "smooth, no witness for the first line",
                bank -> bank.smooth(0));
        CHECKS.equal("smooth, a witness for both lines", 2, twoOweOthers(1, 3, 4, 5, 6, 7).smooth(0));
    }

    private static TallyWax oneOwesAnother(int... gone) {
        TallyWax bank = Banks.with(5);
        bank.write(0, 0, 1, 10, 7);
        Banks.turnAll(bank, gone);
        return bank;
    }

    private static TallyWax twoOweOthers(int... gone) {
        TallyWax bank = Banks.with(5);
        bank.write(0, 2, 3, 5, 7);
        bank.write(0, 0, 1, 9, 7);
        Banks.turnAll(bank, gone);
        return bank;
    }

    private static void nobodyThereAndNoLineNeeded() {
        TallyWax bank = Banks.with(5, 5);
        bank.write(0, 0, 1, 10, 7);
        bank.write(0, 1, 0, 10, 7);
        Banks.turnAll(bank, 0, 1, 2, 3, 4, 5, 6, 7);
        CHECKS.equal("smooth what is even with nobody there", 0, bank.smooth(0));
        CHECKS.equal("smooth what is empty with nobody there", 0, bank.smooth(1));
    }

    // ---- heat and years

    private static void heat() {
        EDGES.holds("Terms", "There are 10 numbers of it, 0 to 9 (each 0, at first)", () -> {
            EDGES.bounds(Edges.INDEX, TallyWax::new, 0, 9, "setHeat, number", (bank, number) ->
                    CHECKS.equal("the first setHeat(" + number + ", 9)", 0, bank.setHeat(number, 9)));
            TallyWax bank = Banks.with(1);
            CHECKS.equal("yearsUntilMelted of the softest by the first heat", -1, bank.yearsUntilMelted(0));
        });
        EDGES.holds("Terms", "that of a year is the one with the number year % 10.", () -> {
            for (int year : new int[] {0, 1, 8, 9, 10, 11, 19, 20, 21, 99, 100, 101, 400}) {
                CHECKS.equal("pass(1) in the warm year " + year, 1, bankIn(year, 0, 2).pass(1));
                CHECKS.equal("pass(1) in the cold year " + year, 0, bankIn(year, 9, 0).pass(1));
            }
        });
    }

    /** One tablet with one line, in that year, whose number has one heat, and all others the other. */
    private static TallyWax bankIn(int year, int heatOfOthers, int heatOfYear) {
        TallyWax bank = Banks.with(1);
        passTo(bank, year);
        for (int number = 0; number < 10; number++) {
            bank.setHeat(number, number == year % 10 ? heatOfYear : heatOfOthers);
        }
        bank.write(0, 0, 1, 10, 2);
        return bank;
    }

    private static void passTo(TallyWax bank, int year) {
        int left = year;
        while (left > 0) {
            int step = Math.min(left, 40);
            bank.pass(step);
            left -= step;
        }
    }

    private static void years() {
        EDGES.holds("Terms", "Each tablet that is not in the cellar, and whose hardness is less than the heat "
                + "of this year, melts: all its lines go.", TermsEdgesTest::whatMelts);
        EDGES.holds("Terms", "The year is 1 greater.", TermsEdgesTest::yearIsGreater);
    }

    private static void whatMelts() {
        for (int heat = 0; heat <= 9; heat++) {
            for (int hardness = 1; hardness <= 9; hardness++) {
                TallyWax bank = Banks.with(hardness, hardness);
                for (int line = 0; line < 12; line++) {
                    bank.write(0, 0, 1, 10, 2);
                    bank.write(1, 0, 1, 10, 2);
                }
                bank.carry(1);
                bank.setHeat(0, heat);
                String what = "hardness " + hardness + ", heat " + heat + ": ";
                CHECKS.equal(what + "pass(1)", hardness < heat ? 12 : 0, bank.pass(1));
                CHECKS.equal(what + "linesOf(0)", hardness < heat ? 0 : 12, bank.linesOf(0));
                CHECKS.equal(what + "linesOf the one in the cellar", 12, bank.linesOf(1));
                CHECKS.equal(what + "tablets()", 2, bank.tablets());
            }
        }
    }

    private static void yearIsGreater() {
        TallyWax bank = Banks.with(1);
        bank.write(0, 0, 1, 10, 2);
        bank.setHeat(1, 9);
        CHECKS.equal("pass(1) by the heat of the year 0", 0, bank.pass(1));
        CHECKS.equal("year() after it", 1, bank.year());
        CHECKS.equal("pass(1) by the heat of the year 1", 1, bank.pass(1));
        CHECKS.equal("year() after that", 2, bank.year());
    }

    // ---- refused calls

    private static void refusedCallsOfABusyBank() {
        busyRefuses(Edges.ARGUMENT, "addTablet(0)", bank -> bank.addTablet(0));
        busyRefuses(Edges.INDEX, "write(5, ..)", bank -> bank.write(5, 0, 1, 10, 2));
        busyRefuses(Edges.INDEX, "write of creditor 8", bank -> bank.write(0, 0, 8, 10, 2));
        busyRefuses(Edges.ARGUMENT, "write of amount 0", bank -> bank.write(0, 0, 1, 0, 2));
        busyRefuses(Edges.STATE, "write, witness gone", bank -> bank.write(0, 0, 1, 10, 6));
        busyRefuses(Edges.STATE, "write on a full tablet", bank -> bank.write(2, 0, 1, 10, 2));
        busyRefuses(Edges.INDEX, "pay(0, 3, 1)", bank -> bank.pay(0, 3, 1));
        busyRefuses(Edges.ARGUMENT, "pay(0, 0, 11)", bank -> bank.pay(0, 0, 11));
        busyRefuses(Edges.INDEX, "deny(4, 0)", bank -> bank.deny(4, 0));
        busyRefuses(Edges.STATE, "deny of a witnessed line", bank -> bank.deny(0, 0));
        busyRefuses(Edges.INDEX, "smooth(5)", bank -> bank.smooth(5));
        busyRefuses(Edges.INDEX, "turn(8)", bank -> bank.turn(8));
        busyRefuses(Edges.INDEX, "carry(5)", bank -> bank.carry(5));
        busyRefuses(Edges.INDEX, "setHeat(10, 1)", bank -> bank.setHeat(10, 1));
        busyRefuses(Edges.ARGUMENT, "setHeat(4, 10)", bank -> bank.setHeat(4, 10));
        busyRefuses(Edges.ARGUMENT, "pass(41)", bank -> bank.pass(41));
        busyRefuses(Edges.ARGUMENT, "meltsIn(41)", bank -> bank.meltsIn(41));
        busyRefuses(Edges.INDEX, "linesSmoothed(5)", bank -> bank.linesSmoothed(5));
    }

    private static void busyRefuses(Class<? extends RuntimeException> want, String what, Edges.Call call) {
        EDGES.refuses(want, Banks::busy, what, call);
    }
}
