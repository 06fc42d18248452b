/** The boundary cases that promises 11 to 29 name: what there is, and what it comes to. */
public final class QuestionsEdgesTest {
    private static final Edges EDGES = new Edges();
    private static final Checks CHECKS = EDGES.checks;
    private static final String NO_PERSON = "Throws `IndexOutOfBoundsException` if person is not 0 to 7";
    private static final String NO_TABLET = "Throws `IndexOutOfBoundsException` if there is no such tablet";
    private static final String NO_LINE = NO_TABLET + ", or it has no such line";

    public static void main(String[] args) {
        year();
        counts();
        melted();
        denied();
        isThere();
        tablets();
        lines();
        isWitnessed();
        has();
        hasOn();
        owes();
        total();
        richest();
        owesAlong();
        isRound();
        EDGES.close("QuestionsEdgesTest", 11, 29);
    }

    /** The most that a bank can hold: 8 tablets with 12 lines, on which 0 owes 1 the greatest amount. */
    private static TallyWax full() {
        TallyWax bank = new TallyWax();
        for (int tablet = 0; tablet < 8; tablet++) {
            bank.addTablet(1);
            for (int line = 0; line < 12; line++) {
                bank.write(tablet, 0, 1, 999, 2);
            }
        }
        return bank;
    }

    // ---- promises 11 to 15

    private static void year() {
        EDGES.holds(11, "Returns the year.", () -> {
            TallyWax bank = new TallyWax();
            CHECKS.equal("year() at first", 0, bank.year());
            bank.pass(9);
            CHECKS.equal("year() after pass(9)", 9, bank.year());
            bank.pass(1);
            CHECKS.equal("year() after pass(1)", 10, bank.year());
            bank.pass(40);
            CHECKS.equal("year() after pass(40)", 50, bank.year());
            EDGES.refuses(Edges.ARGUMENT, TallyWax::new, "pass(0)", fresh -> fresh.pass(0));
        });
    }

    private static void counts() {
        EDGES.holds(12, "Returns how many tablets there are.", () -> {
            CHECKS.equal("tablets() without any", 0, new TallyWax().tablets());
            CHECKS.equal("tablets() of 1", 1, Banks.withTablets(1).tablets());
            TallyWax bank = Banks.withTablets(8);
            CHECKS.equal("tablets() of 8", 8, bank.tablets());
            CHECKS.refuses(Edges.STATE, "a ninth addTablet", () -> bank.addTablet(1));
            CHECKS.equal("tablets() after a ninth was refused", 8, bank.tablets());
        });
        EDGES.holds(13, "Returns how many lines there are on all tablets.", () -> {
            CHECKS.equal("lines() without tablets", 0, new TallyWax().lines());
            CHECKS.equal("lines() of an empty tablet", 0, Banks.withLines(0).lines());
            CHECKS.equal("lines() of a full tablet", 12, Banks.withLines(12).lines());
            CHECKS.equal("lines() with one paid", 11, Banks.withElevenLeft().lines());
            CHECKS.equal("lines() with all melted", 0, Banks.withNoneLeft().lines());
            CHECKS.equal("lines() of a full bank", 96, full().lines());
        });
    }

    private static void melted() {
        EDGES.holds(14, "Returns how many lines melted in all.", () -> {
            CHECKS.equal("melted() at first", 0, new TallyWax().melted());
            CHECKS.equal("melted() of lines that went otherwise", 0, withLinesGoneByHand().melted());
            TallyWax bank = full();
            bank.setHeat(3, 2);
            bank.pass(3);
            CHECKS.equal("melted() before the warm year", 0, bank.melted());
            bank.pass(1);
            CHECKS.equal("melted() of a full bank", 96, bank.melted());
            bank.write(7, 0, 1, 5, 2);
            bank.pass(9);
            CHECKS.equal("melted() before the next warm year", 96, bank.melted());
            bank.pass(1);
            CHECKS.equal("melted() in all", 97, bank.melted());
        });
    }

    /** A line paid, a line denied, and two smoothed to none. */
    private static TallyWax withLinesGoneByHand() {
        TallyWax bank = Banks.withLines(2);
        bank.pay(0, 0, 10);
        bank.deny(0, 0);
        bank.write(0, 0, 1, 5, 2);
        bank.write(0, 1, 0, 5, 2);
        bank.smooth(0);
        return bank;
    }

    private static void denied() {
        EDGES.holds(15, "Returns how much was denied in all.", () -> {
            CHECKS.equal("denied() at first", 0, new TallyWax().denied());
            CHECKS.equal("denied() of one line, another paid", 11, withLinesGoneByHand().denied());
            CHECKS.equal("denied() of what melted", 0, Banks.withNoneLeft().denied());
            TallyWax bank = full();
            bank.turn(2);
            for (int tablet = 0; tablet < 8; tablet++) {
                for (int line = 11; line >= 0; line--) {
                    bank.deny(tablet, line);
                }
            }
            CHECKS.equal("denied() of a full bank", 96 * 999, bank.denied());
        });
    }

    // ---- promises 16 to 22

    private static void isThere() {
        EDGES.holds(16, "Returns whether it is there.", () -> {
            TallyWax bank = new TallyWax();
            bank.turn(7);
            CHECKS.equal("isThere(7), gone", false, bank.isThere(7));
            CHECKS.equal("isThere(0), there", true, bank.isThere(0));
        });
        EDGES.holds(16, NO_PERSON, () -> EDGES.personBounds("isThere", TallyWax::isThere));
    }

    private static void tablets() {
        EDGES.holds(17, "Returns how many lines it has.", () -> {
            CHECKS.equal("linesOf an empty tablet", 0, Banks.withLines(0).linesOf(0));
            CHECKS.equal("linesOf a full tablet", 12, Banks.withLines(12).linesOf(0));
            CHECKS.equal("linesOf one with one paid", 11, Banks.withElevenLeft().linesOf(0));
            CHECKS.equal("linesOf one that melted", 0, Banks.withNoneLeft().linesOf(0));
            CHECKS.equal("linesOf(7) of a full bank", 12, full().linesOf(7));
        });
        EDGES.holds(17, NO_TABLET, () -> EDGES.tabletBounds("linesOf", TallyWax::linesOf));
        EDGES.holds(18, "Returns whether it lies in the cellar.", () -> {
            TallyWax bank = Banks.withTablets(8);
            bank.carry(7);
            CHECKS.equal("isInCellar(7), carried", true, bank.isInCellar(7));
            CHECKS.equal("isInCellar(0), not carried", false, bank.isInCellar(0));
        });
        EDGES.holds(18, NO_TABLET, () -> EDGES.tabletBounds("isInCellar", TallyWax::isInCellar));
    }

    private static void lines() {
        EDGES.holds(19, "Returns its debtor.", () -> {
            TallyWax bank = firstAndLast();
            CHECKS.equal("debtorOf(7, 0)", 0, bank.debtorOf(7, 0));
            CHECKS.equal("debtorOf(7, 11)", 7, bank.debtorOf(7, 11));
        });
        EDGES.holds(19, NO_LINE, () -> lineQuestion("debtorOf", TallyWax::debtorOf));
        EDGES.holds(20, "Returns its creditor.", () -> {
            TallyWax bank = firstAndLast();
            CHECKS.equal("creditorOf(7, 0)", 7, bank.creditorOf(7, 0));
            CHECKS.equal("creditorOf(7, 11)", 0, bank.creditorOf(7, 11));
        });
        EDGES.holds(20, NO_LINE, () -> lineQuestion("creditorOf", TallyWax::creditorOf));
        EDGES.holds(21, "Returns its amount.", () -> {
            TallyWax bank = firstAndLast();
            CHECKS.equal("amountOf(7, 0)", 1, bank.amountOf(7, 0));
            CHECKS.equal("amountOf(7, 11)", 999, bank.amountOf(7, 11));
            bank.pay(7, 11, 998);
            CHECKS.equal("amountOf(7, 11), all but 1 paid", 1, bank.amountOf(7, 11));
        });
        EDGES.holds(21, NO_LINE, () -> lineQuestion("amountOf", TallyWax::amountOf));
    }

    /** On the last of 8 tablets the first and the last of 12 lines are not like the others. */
    private static TallyWax firstAndLast() {
        TallyWax bank = Banks.withTablets(7);
        bank.turn(7);
        bank.addTablet(9);
        bank.write(7, 0, 7, 1, 3);
        for (int line = 1; line < 11; line++) {
            bank.write(7, 1, 2, 500, 3);
        }
        bank.write(7, 7, 0, 999, 3);
        return bank;
    }

    private interface LineQuestion {
        Object ask(TallyWax bank, int tablet, int line);
    }

    private static void lineQuestion(String name, LineQuestion question) {
        EDGES.tabletBounds(name, (bank, tablet) -> question.ask(bank, tablet, 0));
        EDGES.lineBounds(name, (bank, line) -> question.ask(bank, 0, line));
    }

    private static void isWitnessed() {
        EDGES.holds(22, "Returns whether it is witnessed.", () -> {
            TallyWax bank = Banks.with(5);
            for (int line = 0; line < 12; line++) {
                bank.write(0, 1, 2, 10, line < 11 ? 0 : 7);
            }
            bank.turn(7);
            CHECKS.equal("isWitnessed(0, 10)", true, bank.isWitnessed(0, 10));
            CHECKS.equal("isWitnessed(0, 11)", false, bank.isWitnessed(0, 11));
            Banks.turnAll(bank, 7, 0);
            CHECKS.equal("isWitnessed(0, 10), the other gone", false, bank.isWitnessed(0, 10));
            CHECKS.equal("isWitnessed(0, 11), the other gone", true, bank.isWitnessed(0, 11));
        });
        EDGES.holds(22, NO_LINE, () -> lineQuestion("isWitnessed", TallyWax::isWitnessed));
    }

    // ---- promises 23 to 26

    private static void has() {
        EDGES.holds(23, "Returns what it has on all tablets, added.", () -> {
            CHECKS.equal("has(0) without tablets", 0, new TallyWax().has(0));
            CHECKS.equal("has(7) without lines", 0, Banks.withLines(0).has(7));
            CHECKS.equal("has(0) of a full bank", -96 * 999, full().has(0));
            CHECKS.equal("has(1) of a full bank", 96 * 999, full().has(1));
            CHECKS.equal("has(2) of a full bank, the witness", 0, full().has(2));
            TallyWax bank = firstAndLast();
            CHECKS.equal("has(0)", 928, bank.has(0));
            CHECKS.equal("has(7)", -998, bank.has(7));
        });
        EDGES.holds(23, NO_PERSON, () -> EDGES.personBounds("has", TallyWax::has));
    }

    private static void hasOn() {
        EDGES.holds(24, "Returns what the person has on this tablet.", () -> {
            TallyWax bank = firstAndLast();
            CHECKS.equal("hasOn(0, 0)", -10, bank.hasOn(0, 0));
            CHECKS.equal("hasOn(7, 0)", 998, bank.hasOn(7, 0));
            CHECKS.equal("hasOn(7, 7)", -998, bank.hasOn(7, 7));
            CHECKS.equal("hasOn an empty tablet", 0, Banks.withLines(0).hasOn(0, 0));
        });
        EDGES.holds(24, NO_TABLET + ", or person is not 0 to 7", () -> {
            EDGES.tabletBounds("hasOn", (bank, tablet) -> bank.hasOn(tablet, 0));
            EDGES.personBounds("hasOn", (bank, person) -> bank.hasOn(0, person));
            EDGES.refuses(Edges.INDEX, Banks::busy, "hasOn(5, 8)", bank -> bank.hasOn(5, 8));
        });
    }

    private static void owes() {
        EDGES.holds(25, "Returns the amounts of all lines in which the first one owes the second one, added.", () -> {
            CHECKS.equal("owes(0, 1) without tablets", 0, new TallyWax().owes(0, 1));
            CHECKS.equal("owes(0, 1) of a full bank", 96 * 999, full().owes(0, 1));
            CHECKS.equal("owes(1, 0) of a full bank", 0, full().owes(1, 0));
            CHECKS.equal("owes(0, 0) of a full bank", 0, full().owes(0, 0));
            CHECKS.equal("owes(7, 0)", 999, firstAndLast().owes(7, 0));
            CHECKS.equal("owes(0, 7)", 1, firstAndLast().owes(0, 7));
        });
        EDGES.holds(25, "Throws `IndexOutOfBoundsException` if debtor or creditor is not 0 to 7", () -> {
            EDGES.personBounds("owes, debtor", (bank, debtor) -> bank.owes(debtor, 0));
            EDGES.personBounds("owes, creditor", (bank, creditor) -> bank.owes(0, creditor));
            EDGES.refuses(Edges.INDEX, Banks::busy, "owes(8, -1)", bank -> bank.owes(8, -1));
        });
    }

    private static void total() {
        EDGES.holds(26, "Returns the amounts of all lines, added.", () -> {
            CHECKS.equal("total() without tablets", 0, new TallyWax().total());
            CHECKS.equal("total() without lines", 0, Banks.withLines(0).total());
            CHECKS.equal("total() with all melted", 0, Banks.withNoneLeft().total());
            CHECKS.equal("total() of a full tablet", 186, Banks.withLines(12).total());
            CHECKS.equal("total() with one paid", 165, Banks.withElevenLeft().total());
            CHECKS.equal("total() of a full bank", 96 * 999, full().total());
        });
    }

    // ---- promises 27 to 29

    private static void richest() {
        EDGES.holds(27, "Returns the person that has the most", () -> {
            TallyWax bank = Banks.with(5, 5);
            bank.write(0, 0, 7, 1, 2);
            CHECKS.equal("richest(), 7 has 1", 7, bank.richest());
            bank.write(1, 7, 0, 2, 2);
            CHECKS.equal("richest(), 0 has 1", 0, bank.richest());
            for (int person = 0; person < 8; person++) {
                TallyWax alone = Banks.with(5);
                alone.write(0, (person + 1) % 8, person, 1, (person + 2) % 8);
                CHECKS.equal("richest() of one that has 1", person, alone.richest());
            }
        });
        EDGES.holds(27, "of several the smallest number", () -> {
            CHECKS.equal("richest() where all have 0", 0, new TallyWax().richest());
            TallyWax bank = Banks.with(5, 5);
            bank.write(0, 0, 7, 5, 2);
            bank.write(1, 1, 6, 5, 2);
            CHECKS.equal("richest() of 6 and 7", 6, bank.richest());
            bank.turn(6);
            CHECKS.equal("richest() of 6 and 7, 6 gone", 6, bank.richest());
            TallyWax poor = Banks.with(5);
            poor.write(0, 0, 1, 5, 2);
            poor.pay(0, 0, 5);
            poor.write(0, 0, 1, 5, 2);
            poor.write(0, 1, 0, 5, 2);
            CHECKS.equal("richest() where all have 0 again", 0, poor.richest());
        });
    }

    /** A way from 0 to 7, each line on the tablet after the last one's, and the last lines first. */
    private static TallyWax longWay() {
        TallyWax bank = Banks.with(5, 5, 5);
        for (int debtor = 6; debtor >= 0; debtor--) {
            bank.write(debtor % 3, debtor, debtor + 1, 1, (debtor + 2) % 8);
        }
        return bank;
    }

    /** A way from 7 to 0, with the first line first. */
    private static TallyWax longWayBack() {
        TallyWax bank = Banks.with(5, 5, 5);
        for (int debtor = 7; debtor >= 1; debtor--) {
            bank.write(debtor % 3, debtor, debtor - 1, 1, (debtor + 1) % 8);
        }
        return bank;
    }

    private static void owesAlong() {
        EDGES.holds(28, "Returns to how many other persons one gets from it along lines of any tablet", () -> {
            CHECKS.equal("owesAlong(0) without tablets", 0, new TallyWax().owesAlong(0));
            for (int person = 0; person < 8; person++) {
                CHECKS.equal("owesAlong(" + person + ") to 7", 7 - person, longWay().owesAlong(person));
                CHECKS.equal("owesAlong(" + person + ") to 0", person, longWayBack().owesAlong(person));
            }
            TallyWax round = longWay();
            round.write(0, 7, 0, 1, 3);
            for (int person = 0; person < 8; person++) {
                CHECKS.equal("owesAlong(" + person + ") in a round of all", 7, round.owesAlong(person));
            }
            TallyWax fan = Banks.with(5);
            for (int creditor = 1; creditor < 8; creditor++) {
                fan.write(0, 0, creditor, 1, creditor % 7 + 1);
            }
            CHECKS.equal("owesAlong(0), who owes each of the others", 7, fan.owesAlong(0));
            CHECKS.equal("owesAlong(0) along 96 lines", 1, full().owesAlong(0));
            CHECKS.equal("owesAlong(1) against 96 lines", 0, full().owesAlong(1));
        });
        EDGES.holds(28, NO_PERSON, () -> EDGES.personBounds("owesAlong", TallyWax::owesAlong));
    }

    private static void isRound() {
        EDGES.holds(29, "Returns whether one gets from some person along lines, from debtors to creditors, back to it.",
                () -> {
            CHECKS.equal("isRound() without tablets", false, new TallyWax().isRound());
            CHECKS.equal("isRound() of 96 lines one way", false, full().isRound());
            CHECKS.equal("isRound() of a long way", false, longWay().isRound());
            CHECKS.equal("isRound() of a long way back", false, longWayBack().isRound());
            TallyWax all = longWay();
            all.write(0, 7, 0, 1, 3);
            CHECKS.equal("isRound() of all 8", true, all.isRound());
            TallyWax back = longWayBack();
            back.write(0, 0, 7, 1, 3);
            CHECKS.equal("isRound() of all 8, the other way", true, back.isRound());
            TallyWax two = Banks.with(5, 5);
            two.write(0, 6, 7, 1, 0);
            two.write(1, 7, 6, 1, 0);
            CHECKS.equal("isRound() of 2", true, two.isRound());
            two.pay(1, 0, 1);
            CHECKS.equal("isRound() with one of 2 paid", false, two.isRound());
        });
    }
}
