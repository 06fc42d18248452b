/** The boundary cases that promises 1 to 10 name: the calls that change something. */
public final class CallsEdgesTest {
    private static final Edges EDGES = new Edges();
    private static final Checks CHECKS = EDGES.checks;
    private static final String FIRST_NAMED = "If several exceptions apply, the one that is named first is thrown.";

    public static void main(String[] args) {
        newObject();
        addTablet();
        write();
        pay();
        deny();
        smooth();
        turn();
        carry();
        setHeat();
        pass();
        EDGES.close("CallsEdgesTest", 1, 10);
    }

    // ---- promises 1 and 2

    private static void newObject() {
        EDGES.holds(1, "Creates a bank without tablets, in the year 0; all persons are there.", () -> {
            TallyWax bank = new TallyWax();
            CHECKS.equal("tablets()", 0, bank.tablets());
            CHECKS.equal("year()", 0, bank.year());
            for (int person = 0; person < 8; person++) {
                CHECKS.equal("isThere(" + person + ")", true, bank.isThere(person));
            }
            EDGES.refuses(Edges.INDEX, TallyWax::new, "linesOf(0)", fresh -> fresh.linesOf(0));
        });
    }

    private static void addTablet() {
        EDGES.holds(2, "Returns its number.", () -> {
            TallyWax bank = new TallyWax();
            for (int number = 0; number < 8; number++) {
                CHECKS.equal("addTablet of the same hardness", number, bank.addTablet(9));
            }
        });
        EDGES.holds(2, "Throws `IllegalArgumentException` if hardness is not 1 to 9", () -> {
            EDGES.bounds(Edges.ARGUMENT, TallyWax::new, 1, 9, "the first addTablet", TallyWax::addTablet);
            EDGES.bounds(Edges.ARGUMENT, () -> Banks.withTablets(7), 1, 9, "the eighth addTablet", TallyWax::addTablet);
        });
        EDGES.holds(2, "Throws `IllegalStateException` if there are 8", () -> {
            CHECKS.equal("addTablet where there are 7", 7, Banks.withTablets(7).addTablet(1));
            for (int hardness = 1; hardness <= 9; hardness++) {
                int tried = hardness;
                EDGES.refuses(Edges.STATE, () -> Banks.withTablets(8), "addTablet where there are 8",
                        bank -> bank.addTablet(tried));
            }
        });
        EDGES.holds("Terms", FIRST_NAMED, () -> {
            for (int hardness : new int[] {0, 10, Integer.MIN_VALUE, Integer.MAX_VALUE}) {
                String what = "addTablet(" + hardness + ") where there are 8";
                EDGES.refuses(Edges.ARGUMENT, () -> Banks.withTablets(8), what, bank -> bank.addTablet(hardness));
            }
        });
    }

    // ---- promise 3

    private static void write() {
        EDGES.holds(3, "Returns the number of the line.", CallsEdgesTest::numberOfWrittenLine);
        EDGES.holds(3, "Throws `IndexOutOfBoundsException` if there is no such tablet, "
                + "or debtor, creditor or witness is not 0 to 7", () -> {
            EDGES.tabletBounds("write", (bank, tablet) -> bank.write(tablet, 2, 3, 10, 4));
            writerBounds("write, debtor", (bank, person) -> bank.write(0, person, 1, 10, 2));
            writerBounds("write, creditor", (bank, person) -> bank.write(0, 1, person, 10, 2));
            writerBounds("write, witness", (bank, person) -> bank.write(0, 1, 2, 10, person));
        });
        EDGES.holds(3, "Throws `IllegalArgumentException` if two of the three are the same, or amount is not 1 to 999",
                CallsEdgesTest::wrongArgumentsOfWrite);
        EDGES.holds(3, "Throws `IllegalStateException` if the tablet has 12 lines, or one of the three is gone",
                CallsEdgesTest::wrongStatesOfWrite);
        EDGES.holds("Terms", FIRST_NAMED, CallsEdgesTest::orderOfWrite);
    }

    /** In this bank all are there, so that each may write. */
    private static void writerBounds(String what, Edges.NumberCall call) {
        EDGES.bounds(Edges.INDEX, () -> Banks.with(5), 0, 7, what, call);
    }

    private static void numberOfWrittenLine() {
        TallyWax bank = Banks.with(5, 5);
        for (int line = 0; line < 12; line++) {
            CHECKS.equal("write on the first", line, bank.write(0, 0, 1, 10, 2));
        }
        CHECKS.equal("write on the second", 0, bank.write(1, 0, 1, 10, 2));
        bank.pay(0, 0, 10);
        CHECKS.equal("write where one has been paid", 11, bank.write(0, 0, 1, 10, 2));
        CHECKS.equal("write where all have melted", 0, Banks.withNoneLeft().write(0, 0, 1, 10, 2));
    }

    private static void wrongArgumentsOfWrite() {
        for (int person = 0; person < 8; person++) {
            int same = person;
            int other = (person + 1) % 8;
            EDGES.refuses(Edges.ARGUMENT, () -> Banks.with(5), "write, debtor is creditor " + same,
                    bank -> bank.write(0, same, same, 10, other));
            EDGES.refuses(Edges.ARGUMENT, () -> Banks.with(5), "write, debtor is witness " + same,
                    bank -> bank.write(0, same, other, 10, same));
            EDGES.refuses(Edges.ARGUMENT, () -> Banks.with(5), "write, creditor is witness " + same,
                    bank -> bank.write(0, other, same, 10, same));
            EDGES.refuses(Edges.ARGUMENT, () -> Banks.with(5), "write, all three are " + same,
                    bank -> bank.write(0, same, same, 10, same));
        }
        EDGES.bounds(Edges.ARGUMENT, () -> Banks.with(5), 1, 999, "write of amount",
                (bank, amount) -> bank.write(0, 0, 1, amount, 2));
    }

    private static void wrongStatesOfWrite() {
        CHECKS.equal("write where there are 11 lines", 11, Banks.withLines(11).write(0, 0, 1, 10, 2));
        EDGES.refuses(Edges.STATE, () -> Banks.withLines(12), "write where there are 12 lines",
                bank -> bank.write(0, 0, 1, 10, 2));
        for (int person = 0; person < 8; person++) {
            int gone = person;
            int second = (person + 1) % 8;
            int third = (person + 2) % 8;
            Edges.Making making = () -> withOneGone(gone);
            EDGES.refuses(Edges.STATE, making, "write, debtor gone", bank -> bank.write(0, gone, second, 10, third));
            EDGES.refuses(Edges.STATE, making, "write, creditor gone", bank -> bank.write(0, second, gone, 10, third));
            EDGES.refuses(Edges.STATE, making, "write, witness gone", bank -> bank.write(0, second, third, 10, gone));
            TallyWax bank = withOneGone(gone);
            bank.turn(gone);
            CHECKS.equal("write by one that is back", 0, bank.write(0, gone, second, 10, third));
        }
    }

    private static TallyWax withOneGone(int person) {
        TallyWax bank = Banks.with(5);
        bank.turn(person);
        return bank;
    }

    /** Tablet 0 is full, and 7 is gone. */
    private static void orderOfWrite() {
        Edges.Making full = () -> Banks.withLines(12);
        EDGES.refuses(Edges.INDEX, full, "write, no tablet and the same", bank -> bank.write(1, 0, 0, 10, 2));
        EDGES.refuses(Edges.INDEX, full, "write, no tablet and amount 0", bank -> bank.write(-1, 0, 1, 0, 2));
        EDGES.refuses(Edges.INDEX, full, "write, no tablet and gone", bank -> bank.write(1, 7, 1, 10, 2));
        EDGES.refuses(Edges.INDEX, full, "write, debtor and creditor 8", bank -> bank.write(0, 8, 8, 10, 2));
        EDGES.refuses(Edges.INDEX, full, "write, debtor and witness -1", bank -> bank.write(0, -1, 0, 10, -1));
        EDGES.refuses(Edges.INDEX, full, "write, no debtor and amount 0", bank -> bank.write(0, 8, 1, 0, 2));
        EDGES.refuses(Edges.INDEX, full, "write, no creditor and amount 1000", bank -> bank.write(0, 0, -1, 1000, 2));
        EDGES.refuses(Edges.INDEX, full, "write, no witness and the same", bank -> bank.write(0, 0, 0, 10, 8));
        EDGES.refuses(Edges.INDEX, full, "write, no debtor and full", bank -> bank.write(0, -1, 1, 10, 2));
        EDGES.refuses(Edges.INDEX, full, "write, no creditor and gone", bank -> bank.write(0, 7, 8, 10, 2));
        EDGES.refuses(Edges.INDEX, full, "write, no witness and full", bank -> bank.write(0, 0, 1, 10, 8));
        EDGES.refuses(Edges.ARGUMENT, full, "write, the same and full", bank -> bank.write(0, 0, 1, 10, 1));
        EDGES.refuses(Edges.ARGUMENT, full, "write, the same and gone", bank -> bank.write(0, 7, 7, 10, 2));
        EDGES.refuses(Edges.ARGUMENT, full, "write, amount 0 and full", bank -> bank.write(0, 0, 1, 0, 2));
        EDGES.refuses(Edges.ARGUMENT, full, "write, amount 1000 and gone", bank -> bank.write(0, 0, 1, 1000, 7));
        EDGES.refuses(Edges.INDEX, full, "write, all wrong", bank -> bank.write(9, 7, 7, 0, 7));
        EDGES.refuses(Edges.ARGUMENT, full, "write, all but the numbers wrong", bank -> bank.write(0, 7, 7, 0, 7));
    }

    // ---- promise 4

    private static void pay() {
        EDGES.holds(4, "Pays some of a line; one that is paid whole goes.", () -> {
            TallyWax bank = Banks.withLines(3);
            bank.pay(0, 1, 10);
            CHECKS.equal("lines with all but 1 paid", "0>3:10 1>4:1 2>5:12", Banks.linesOn(bank, 0));
            bank.pay(0, 1, 1);
            CHECKS.equal("lines with one paid whole", "0>3:10 2>5:12", Banks.linesOn(bank, 0));
        });
        EDGES.holds(4, "Returns how much of it is left.", () -> {
            CHECKS.equal("pay the least", 9, Banks.withLines(1).pay(0, 0, 1));
            CHECKS.equal("pay all but 1", 1, Banks.withLines(1).pay(0, 0, 9));
            CHECKS.equal("pay all", 0, Banks.withLines(1).pay(0, 0, 10));
        });
        EDGES.holds(4, "Throws `IndexOutOfBoundsException` if there is no such tablet, or it has no such line", () -> {
            EDGES.tabletBounds("pay", (bank, tablet) -> bank.pay(tablet, 0, 1));
            EDGES.lineBounds("pay", (bank, line) -> bank.pay(0, line, 1));
        });
        EDGES.holds(4, "Throws `IllegalArgumentException` if amount is not 1 to the amount of the line",
                CallsEdgesTest::amountsOfPay);
        EDGES.holds("Terms", FIRST_NAMED, () -> {
            EDGES.refuses(Edges.INDEX, Banks::busy, "pay, no tablet and amount 0", bank -> bank.pay(5, 0, 0));
            EDGES.refuses(Edges.INDEX, Banks::busy, "pay, no line and amount 0", bank -> bank.pay(4, 0, 0));
            EDGES.refuses(Edges.INDEX, Banks::busy, "pay, no line and amount -1", bank -> bank.pay(2, 12, -1));
            EDGES.refuses(Edges.INDEX, Banks::busy, "pay, line -1 and amount 0", bank -> bank.pay(2, -1, 0));
        });
    }

    private static void amountsOfPay() {
        Edges.NumberCall payFirst = (bank, amount) -> bank.pay(0, 0, amount);
        EDGES.bounds(Edges.ARGUMENT, () -> withAmount(1), 1, 1, "pay of a line of 1, amount", payFirst);
        EDGES.bounds(Edges.ARGUMENT, () -> withAmount(999), 1, 999, "pay of a line of 999, amount", payFirst);
        EDGES.bounds(Edges.ARGUMENT, CallsEdgesTest::withSomePaid, 1, 6, "pay of what is left, amount", payFirst);
        EDGES.bounds(Edges.ARGUMENT, CallsEdgesTest::withAllInOne, 1, 11988, "pay of all in one, amount", payFirst);
    }

    private static TallyWax withAmount(int amount) {
        TallyWax bank = Banks.with(5);
        bank.write(0, 0, 1, amount, 2);
        return bank;
    }

    private static TallyWax withSomePaid() {
        TallyWax bank = withAmount(10);
        bank.pay(0, 0, 4);
        return bank;
    }

    private static TallyWax withAllInOne() {
        TallyWax bank = Banks.with(5);
        for (int line = 0; line < 12; line++) {
            bank.write(0, 0, 1, 999, 2);
        }
        bank.smooth(0);
        return bank;
    }

    // ---- promise 5

    private static void deny() {
        EDGES.holds(5, "A debtor denies a line; it goes.", () -> {
            TallyWax bank = Banks.withLines(3);
            bank.deny(0, 1);
            CHECKS.equal("lines with one denied", "0>3:10 2>5:12", Banks.linesOn(bank, 0));
        });
        EDGES.holds(5, "Returns its amount.", () -> {
            TallyWax bank = Banks.withLines(2);
            bank.pay(0, 0, 9);
            CHECKS.equal("deny of what is left of a line", 1, bank.deny(0, 0));
            CHECKS.equal("deny of a whole line", 11, bank.deny(0, 0));
        });
        EDGES.holds(5, "Throws `IndexOutOfBoundsException` if there is no such tablet, or it has no such line", () -> {
            EDGES.tabletBounds("deny", (bank, tablet) -> bank.deny(tablet, 0));
            EDGES.lineBounds("deny", (bank, line) -> bank.deny(0, line));
        });
        EDGES.holds(5, "Throws `IllegalStateException` if it is witnessed, or the debtor is gone", () -> {
            CHECKS.equal("deny, the witness alone gone", 10, lineWithGone(2).deny(0, 0));
            CHECKS.equal("deny, the debtor alone there", 10, lineWithGone(1, 2, 3, 4, 5, 6, 7).deny(0, 0));
            EDGES.refuses(Edges.STATE, () -> lineWithGone(), "deny, witnessed", bank -> bank.deny(0, 0));
            EDGES.refuses(Edges.STATE, () -> lineWithGone(0, 2), "deny, debtor gone", bank -> bank.deny(0, 0));
            EDGES.refuses(Edges.STATE, () -> lineWithGone(0), "deny, neither", bank -> bank.deny(0, 0));
            EDGES.refuses(Edges.STATE, () -> lineWithGone(2, 2), "deny, witness back", bank -> bank.deny(0, 0));
            EDGES.refuses(Edges.STATE, () -> lineWithGone(1, 3, 4, 5, 6, 7), "deny, the witness alone there beside it",
                    bank -> bank.deny(0, 0));
        });
    }

    /** 0 owes 1 ten, witnessed by 2; then these turn. */
    private static TallyWax lineWithGone(int... persons) {
        TallyWax bank = withAmount(10);
        Banks.turnAll(bank, persons);
        return bank;
    }

    // ---- promise 6

    private static void smooth() {
        EDGES.holds(6, "Returns how many lines it has then.", () -> {
            CHECKS.equal("smooth an empty tablet", 0, Banks.withLines(0).smooth(0));
            CHECKS.equal("smooth a tablet with one line", 1, Banks.withLines(1).smooth(0));
            CHECKS.equal("smooth a full tablet to one line", 1, manyOwesOne(1).smooth(0));
            TallyWax most = manyOwesOne(7);
            CHECKS.equal("smooth a full tablet to the most lines", 7, most.smooth(0));
            CHECKS.equal("linesOf(0) then", 7, most.linesOf(0));
        });
        EDGES.holds(6, "Throws `IndexOutOfBoundsException` if there is no such tablet", () ->
                EDGES.tabletBounds("smooth", TallyWax::smooth));
        EDGES.holds(6, "Throws `IllegalStateException` if the smoothing is refused", () -> {
            Edges.Making noWitness = () -> lineWithGone(2, 3, 4, 5, 6, 7);
            EDGES.refuses(Edges.STATE, noWitness, "smooth with debtor and creditor there", bank -> bank.smooth(0));
            CHECKS.equal("smooth with one more there", 1, lineWithGone(2, 3, 4, 5, 6).smooth(0));
        });
    }

    /** A full tablet on which so many, from 1 on, owe 0. */
    private static TallyWax manyOwesOne(int debtors) {
        TallyWax bank = Banks.with(5);
        for (int line = 0; line < 12; line++) {
            int debtor = 1 + line % debtors;
            bank.write(0, debtor, 0, 10, debtor % 7 + 1);
        }
        return bank;
    }

    // ---- promises 7 to 9

    private static void turn() {
        EDGES.holds(7, "Returns whether it is there then.", () -> {
            TallyWax bank = new TallyWax();
            for (int person : new int[] {0, 7}) {
                CHECKS.equal("turn, goes", false, bank.turn(person));
                CHECKS.equal("isThere, gone", false, bank.isThere(person));
                CHECKS.equal("turn, comes", true, bank.turn(person));
                CHECKS.equal("isThere, back", true, bank.isThere(person));
            }
        });
        EDGES.holds(7, "Throws `IndexOutOfBoundsException` if person is not 0 to 7", () ->
                EDGES.personBounds("turn", TallyWax::turn));
    }

    private static void carry() {
        EDGES.holds(8, "Returns whether it is in the cellar then.", () -> {
            TallyWax bank = Banks.withTablets(8);
            for (int tablet : new int[] {0, 7}) {
                CHECKS.equal("carry into", true, bank.carry(tablet));
                CHECKS.equal("isInCellar, carried into", true, bank.isInCellar(tablet));
                CHECKS.equal("carry out of", false, bank.carry(tablet));
                CHECKS.equal("isInCellar, carried out of", false, bank.isInCellar(tablet));
            }
        });
        EDGES.holds(8, "Throws `IndexOutOfBoundsException` if there is no such tablet", () ->
                EDGES.tabletBounds("carry", TallyWax::carry));
    }

    private static void setHeat() {
        EDGES.holds(9, "Returns what it was.", () -> {
            TallyWax bank = new TallyWax();
            for (int number : new int[] {0, 9}) {
                CHECKS.equal("setHeat from 0 to 9", 0, bank.setHeat(number, 9));
                CHECKS.equal("setHeat from 9 to 9", 9, bank.setHeat(number, 9));
                CHECKS.equal("setHeat from 9 to 0", 9, bank.setHeat(number, 0));
                CHECKS.equal("setHeat from 0 to 0", 0, bank.setHeat(number, 0));
            }
        });
        EDGES.holds(9, "Throws `IndexOutOfBoundsException` if number is not 0 to 9", () ->
                EDGES.bounds(Edges.INDEX, Banks::busy, 0, 9, "setHeat, number",
                        (bank, number) -> bank.setHeat(number, 1)));
        EDGES.holds(9, "Throws `IllegalArgumentException` if heat is not 0 to 9", () -> {
            for (int number : new int[] {0, 4, 9}) {
                EDGES.bounds(Edges.ARGUMENT, Banks::busy, 0, 9, "setHeat, heat",
                        (bank, heat) -> bank.setHeat(number, heat));
            }
        });
        EDGES.holds("Terms", FIRST_NAMED, () -> {
            for (int wrong : new int[] {-1, 10, Integer.MIN_VALUE, Integer.MAX_VALUE}) {
                EDGES.refuses(Edges.INDEX, Banks::busy, "setHeat, number and heat wrong",
                        bank -> bank.setHeat(wrong, wrong));
            }
        });
    }

    // ---- promise 10

    private static void pass() {
        EDGES.holds(10, "Returns how many lines melt in them.", CallsEdgesTest::linesThatMeltOnce);
        EDGES.holds(10, "Returns how many lines melt in them.", CallsEdgesTest::linesThatMeltInSeveralYears);
        EDGES.holds(10, "Returns how many lines melt in them.", CallsEdgesTest::yearsPastNine);
        EDGES.holds(10, "Throws `IllegalArgumentException` if years is not 1 to 40", () ->
                EDGES.bounds(Edges.ARGUMENT, CallsEdgesTest::whereAllMelts, 1, 40, "pass", TallyWax::pass));
    }

    private static TallyWax whereAllMelts() {
        TallyWax bank = Banks.withTablets(8);
        bank.setHeat(0, 9);
        return bank;
    }

    private static void linesThatMeltOnce() {
        CHECKS.equal("pass(1) without tablets", 0, new TallyWax().pass(1));
        CHECKS.equal("pass(40) without tablets", 0, new TallyWax().pass(40));
        TallyWax bank = whereAllMelts();
        CHECKS.equal("pass(40), the heat comes four times", 8, bank.pass(40));
        CHECKS.equal("pass(40), no lines are left", 0, bank.pass(40));
        CHECKS.equal("year()", 80, bank.year());
    }

    /** Tablet 0 melts in the year 1 and tablet 1 in the year 3. */
    private static void linesThatMeltInSeveralYears() {
        TallyWax bank = Banks.with(1, 3);
        bank.write(0, 0, 1, 10, 2);
        bank.write(1, 0, 1, 10, 2);
        bank.write(1, 0, 1, 10, 2);
        bank.setHeat(1, 2);
        bank.setHeat(3, 4);
        CHECKS.equal("pass(4)", 3, bank.pass(4));
        CHECKS.equal("melted()", 3, bank.melted());
    }

    /** The only warm number is the last that is not reached, or the first that is. */
    private static void yearsPastNine() {
        CHECKS.equal("pass(9), number 9 is warm", 0, warmBy(9, 0).pass(9));
        CHECKS.equal("pass(10), number 9 is warm", 1, warmBy(9, 0).pass(10));
        CHECKS.equal("pass(1) in the year 9, number 9 is warm", 1, warmBy(9, 9).pass(1));
        CHECKS.equal("pass(1) in the year 9, number 0 is warm", 0, warmBy(0, 9).pass(1));
        CHECKS.equal("pass(2) in the year 9, number 0 is warm", 1, warmBy(0, 9).pass(2));
        CHECKS.equal("pass(1) in the year 10, number 0 is warm", 1, warmBy(0, 10).pass(1));
        CHECKS.equal("pass(9) in the year 11, number 0 is warm", 0, warmBy(0, 11).pass(9));
        CHECKS.equal("pass(10) in the year 11, number 0 is warm", 1, warmBy(0, 11).pass(10));
        CHECKS.equal("pass(1) in the year 30, number 3 is warm", 0, warmBy(3, 30).pass(1));
        TallyWax bank = warmBy(5, 37);
        bank.pass(40);
        CHECKS.equal("year() after pass(40) in the year 37", 77, bank.year());
    }

    private static TallyWax warmBy(int number, int year) {
        TallyWax bank = Banks.with(1);
        if (year > 0) {
            bank.pass(year);
        }
        bank.setHeat(number, 2);
        bank.write(0, 0, 1, 10, 2);
        return bank;
    }
}
