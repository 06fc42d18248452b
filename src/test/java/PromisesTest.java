/** Each promise of the document by hand: ordinary inputs, the edges it names, and wrong inputs. */
public final class PromisesTest {
    private static final Class<IndexOutOfBoundsException> INDEX = IndexOutOfBoundsException.class;
    private static final Class<IllegalArgumentException> ARGUMENT = IllegalArgumentException.class;
    private static final Class<IllegalStateException> STATE = IllegalStateException.class;
    private static final int LEAST = Integer.MIN_VALUE;
    private static final int GREATEST = Integer.MAX_VALUE;

    private static final Checks CHECKS = new Checks();

    public static void main(String[] args) {
        newObject();
        addTablet();
        write();
        writeWrong();
        writeOrderOfExceptions();
        pay();
        payWrong();
        deny();
        denyWrong();
        smooth();
        smoothTies();
        smoothWitnesses();
        smoothRefused();
        smoothEmptyAndSettled();
        smoothToMoreLines();
        turn();
        carry();
        setHeat();
        pass();
        passManyYears();
        passWrong();
        counts();
        melted();
        denied();
        questionsOfTablets();
        questionsOfLines();
        isWitnessed();
        has();
        owes();
        total();
        richest();
        owesAlong();
        isRound();
        linesSmoothed();
        bestToSmooth();
        atRisk();
        yearsUntilMelted();
        meltsIn();
        meanAmount();
        digestOfNewObject();
        digest();
        questionsChangeNothing();
        CHECKS.close("PromisesTest");
    }

    /** The call must throw that class, and leave everything as it was. */
    private static void refuses(Class<? extends RuntimeException> want, TallyWax bank, String what, Checks.Call call) {
        long before = bank.digest();
        CHECKS.refuses(want, what, call);
        CHECKS.equal("digest() after the refused " + what, before, bank.digest());
    }

    // ---- promise 1

    private static void newObject() {
        TallyWax bank = new TallyWax();
        CHECKS.equal("tablets() of a new object", 0, bank.tablets());
        CHECKS.equal("year() of a new object", 0, bank.year());
        CHECKS.equal("lines() of a new object", 0, bank.lines());
        CHECKS.equal("melted() of a new object", 0, bank.melted());
        CHECKS.equal("denied() of a new object", 0, bank.denied());
        for (int person = 0; person < 8; person++) {
            CHECKS.equal("isThere(" + person + ") of a new object", true, bank.isThere(person));
        }
        for (int number = 0; number < 10; number++) {
            CHECKS.equal("the first setHeat(" + number + ", 9)", 0, bank.setHeat(number, 9));
        }
    }

    // ---- promise 2

    private static void addTablet() {
        TallyWax bank = new TallyWax();
        refuses(ARGUMENT, bank, "addTablet(0)", () -> bank.addTablet(0));
        refuses(ARGUMENT, bank, "addTablet(10)", () -> bank.addTablet(10));
        refuses(ARGUMENT, bank, "addTablet(-2^31)", () -> bank.addTablet(LEAST));
        for (int number = 0; number < 8; number++) {
            CHECKS.equal("addTablet(" + (number + 2) + ")", number, bank.addTablet(number + 2));
            CHECKS.equal("isInCellar() at first", false, bank.isInCellar(number));
            CHECKS.equal("linesOf() at first", 0, bank.linesOf(number));
        }
        refuses(STATE, bank, "a ninth addTablet(1)", () -> bank.addTablet(1));
        refuses(STATE, bank, "a ninth addTablet(9)", () -> bank.addTablet(9));
        refuses(ARGUMENT, bank, "a ninth addTablet(0)", () -> bank.addTablet(0));
        refuses(ARGUMENT, bank, "a ninth addTablet(10)", () -> bank.addTablet(10));
        CHECKS.equal("addTablet(1) on a new object", 0, new TallyWax().addTablet(1));
    }

    // ---- promise 3

    private static void write() {
        TallyWax bank = Banks.with(5, 5);
        CHECKS.equal("write, amount 1", 0, bank.write(0, 0, 7, 1, 3));
        CHECKS.equal("write, amount 999", 1, bank.write(0, 7, 0, 999, 1));
        CHECKS.equal("write on another tablet", 0, bank.write(1, 2, 3, 50, 4));
        CHECKS.equal("lines after write", "0>7:1 7>0:999", Banks.linesOn(bank, 0));
        CHECKS.equal("lines of the other tablet", "2>3:50", Banks.linesOn(bank, 1));
        for (int number = 2; number < 12; number++) {
            CHECKS.equal("write", number, bank.write(0, 0, 7, 1, 3));
        }
        refuses(STATE, bank, "a thirteenth write", () -> bank.write(0, 0, 7, 1, 3));
        bank.pay(0, 4, 1);
        CHECKS.equal("write after one has gone", 11, bank.write(0, 1, 2, 3, 4));
    }

    private static void writeWrong() {
        TallyWax bank = Banks.with(5);
        for (int tablet : new int[] {-1, 1, 8, LEAST, GREATEST}) {
            refuses(INDEX, bank, "write on tablet " + tablet, () -> bank.write(tablet, 0, 1, 1, 2));
        }
        for (int person : new int[] {-1, 8, LEAST, GREATEST}) {
            refuses(INDEX, bank, "write of debtor " + person, () -> bank.write(0, person, 1, 1, 2));
            refuses(INDEX, bank, "write of creditor " + person, () -> bank.write(0, 0, person, 1, 2));
            refuses(INDEX, bank, "write of witness " + person, () -> bank.write(0, 0, 1, 1, person));
        }
        for (int amount : new int[] {0, 1000, -5, LEAST, GREATEST}) {
            refuses(ARGUMENT, bank, "write of amount " + amount, () -> bank.write(0, 0, 1, amount, 2));
        }
        refuses(ARGUMENT, bank, "write, debtor is creditor", () -> bank.write(0, 1, 1, 1, 2));
        refuses(ARGUMENT, bank, "write, debtor is witness", () -> bank.write(0, 1, 2, 1, 1));
        refuses(ARGUMENT, bank, "write, creditor is witness", () -> bank.write(0, 1, 2, 1, 2));
        bank.turn(4);
        refuses(STATE, bank, "write, the debtor is gone", () -> bank.write(0, 4, 1, 1, 2));
        refuses(STATE, bank, "write, the creditor is gone", () -> bank.write(0, 1, 4, 1, 2));
        refuses(STATE, bank, "write, the witness is gone", () -> bank.write(0, 1, 2, 1, 4));
    }

    private static void writeOrderOfExceptions() {
        TallyWax bank = Banks.with(5);
        bank.turn(0);
        refuses(INDEX, bank, "write, no tablet and all else wrong", () -> bank.write(1, 0, 0, 0, 0));
        refuses(INDEX, bank, "write, no person and all else wrong", () -> bank.write(0, 8, 8, 0, 8));
        refuses(ARGUMENT, bank, "write, the same and gone", () -> bank.write(0, 0, 0, 1, 1));
        refuses(ARGUMENT, bank, "write, amount 0 and gone", () -> bank.write(0, 0, 1, 0, 2));
        for (int i = 0; i < 12; i++) {
            bank.write(0, 1, 2, 1, 3);
        }
        refuses(INDEX, bank, "write, no witness and full", () -> bank.write(0, 1, 2, 1, -1));
        refuses(ARGUMENT, bank, "write, amount 1000 and full", () -> bank.write(0, 1, 2, 1000, 3));
        refuses(STATE, bank, "write, gone and full", () -> bank.write(0, 0, 2, 1, 3));
    }

    // ---- promise 4

    private static void pay() {
        TallyWax bank = Banks.with(5);
        bank.write(0, 0, 1, 10, 2);
        bank.write(0, 1, 2, 20, 3);
        bank.write(0, 2, 3, 30, 4);
        CHECKS.equal("pay some", 19, bank.pay(0, 1, 1));
        CHECKS.equal("lines after pay", "0>1:10 1>2:19 2>3:30", Banks.linesOn(bank, 0));
        CHECKS.equal("pay all", 0, bank.pay(0, 1, 19));
        CHECKS.equal("lines after one is paid whole", "0>1:10 2>3:30", Banks.linesOn(bank, 0));
        bank.turn(4);
        CHECKS.equal("isWitnessed of the line behind", false, bank.isWitnessed(0, 1));
        CHECKS.equal("pay the first whole", 0, bank.pay(0, 0, 10));
        CHECKS.equal("lines after the first is paid whole", "2>3:30", Banks.linesOn(bank, 0));
        Banks.turnAll(bank, 2, 3);
        CHECKS.equal("pay all but 1 with all gone", 1, bank.pay(0, 0, 29));
        CHECKS.equal("pay the last 1", 0, bank.pay(0, 0, 1));
        CHECKS.equal("lines after all is paid", 0, bank.lines());
        CHECKS.equal("denied() after paying", 0, bank.denied());
        CHECKS.equal("melted() after paying", 0, bank.melted());
    }

    private static void payWrong() {
        TallyWax bank = Banks.with(5, 5);
        bank.write(0, 0, 1, 10, 2);
        for (int tablet : new int[] {-1, 2, 8, LEAST, GREATEST}) {
            refuses(INDEX, bank, "pay on tablet " + tablet, () -> bank.pay(tablet, 0, 1));
        }
        for (int line : new int[] {-1, 1, 12, LEAST, GREATEST}) {
            refuses(INDEX, bank, "pay of line " + line, () -> bank.pay(0, line, 1));
        }
        refuses(INDEX, bank, "pay on an empty tablet", () -> bank.pay(1, 0, 0));
        for (int amount : new int[] {0, -1, 11, LEAST, GREATEST}) {
            refuses(ARGUMENT, bank, "pay of amount " + amount, () -> bank.pay(0, 0, amount));
        }
    }

    // ---- promise 5

    private static void deny() {
        TallyWax bank = Banks.with(5);
        bank.write(0, 0, 1, 10, 5);
        bank.write(0, 1, 2, 20, 6);
        bank.write(0, 2, 3, 30, 5);
        Banks.turnAll(bank, 5, 1);
        CHECKS.equal("deny, the creditor is gone", 10, bank.deny(0, 0));
        CHECKS.equal("lines after deny", "1>2:20 2>3:30", Banks.linesOn(bank, 0));
        CHECKS.equal("deny the last", 30, bank.deny(0, 1));
        CHECKS.equal("lines after deny of the last", "1>2:20", Banks.linesOn(bank, 0));
        CHECKS.equal("denied()", 40, bank.denied());
        CHECKS.equal("melted() after deny", 0, bank.melted());
    }

    private static void denyWrong() {
        TallyWax bank = Banks.with(5);
        bank.write(0, 0, 1, 10, 5);
        for (int tablet : new int[] {-1, 1, 8, LEAST, GREATEST}) {
            refuses(INDEX, bank, "deny on tablet " + tablet, () -> bank.deny(tablet, 0));
        }
        for (int line : new int[] {-1, 1, 12, LEAST, GREATEST}) {
            refuses(INDEX, bank, "deny of line " + line, () -> bank.deny(0, line));
        }
        refuses(STATE, bank, "deny of a witnessed line", () -> bank.deny(0, 0));
        Banks.turnAll(bank, 0, 5);
        refuses(STATE, bank, "deny by one that is gone", () -> bank.deny(0, 0));
        bank.turn(5);
        refuses(STATE, bank, "deny of a line witnessed again, by one that is gone", () -> bank.deny(0, 0));
        bank.turn(0);
        refuses(STATE, bank, "deny of a line witnessed again", () -> bank.deny(0, 0));
    }

    // ---- promise 6

    private static void smooth() {
        TallyWax bank = Banks.with(5, 5);
        bank.write(0, 0, 1, 10, 2);
        bank.write(0, 1, 2, 10, 3);
        bank.write(0, 2, 3, 4, 5);
        bank.write(1, 3, 2, 100, 0);
        CHECKS.equal("smooth(0)", 2, bank.smooth(0));
        CHECKS.equal("lines after smooth", "0>2:6 0>3:4", Banks.linesOn(bank, 0));
        CHECKS.equal("lines of the other tablet", "3>2:100", Banks.linesOn(bank, 1));
        for (int tablet : new int[] {-1, 2, 8, LEAST, GREATEST}) {
            refuses(INDEX, bank, "smooth(" + tablet + ")", () -> bank.smooth(tablet));
        }
        TallyWax other = Banks.with(5);
        for (int i = 0; i < 12; i++) {
            other.write(0, 3, 6, 999, 0);
        }
        CHECKS.equal("smooth a full tablet", 1, other.smooth(0));
        CHECKS.equal("lines of a full tablet smoothed", "3>6:11988", Banks.linesOn(other, 0));
        refuses(ARGUMENT, other, "pay more than a great amount", () -> other.pay(0, 0, 11989));
        CHECKS.equal("pay a great amount", 0, other.pay(0, 0, 11988));
    }

    private static void smoothTies() {
        TallyWax bank = Banks.with(5);
        bank.write(0, 7, 6, 5, 0);
        bank.write(0, 3, 2, 5, 0);
        bank.write(0, 5, 4, 5, 0);
        CHECKS.equal("smooth with ties", 3, bank.smooth(0));
        CHECKS.equal("of several the smallest number", "3>2:5 5>4:5 7>6:5", Banks.linesOn(bank, 0));
        TallyWax edges = Banks.with(5);
        edges.write(0, 2, 1, 5, 3);
        edges.write(0, 2, 0, 5, 3);
        edges.write(0, 6, 7, 9, 3);
        edges.write(0, 5, 7, 1, 3);
        CHECKS.equal("smooth with ties of 0 and 7", 4, edges.smooth(0));
        CHECKS.equal("0 ahead of 1", "2>7:10 6>0:5 6>1:4 5>1:1", Banks.linesOn(edges, 0));
        TallyWax other = Banks.with(5);
        other.write(0, 1, 2, 3, 0);
        other.write(0, 4, 5, 9, 0);
        other.write(0, 4, 6, 2, 0);
        other.write(0, 7, 6, 8, 0);
        CHECKS.equal("smooth with several debtors", 4, other.smooth(0));
        CHECKS.equal("the least and the most first", "4>6:10 7>5:8 1>2:3 4>5:1", Banks.linesOn(other, 0));
    }

    private static void smoothWitnesses() {
        TallyWax bank = Banks.with(5);
        bank.write(0, 0, 1, 9, 7);
        bank.write(0, 4, 2, 5, 7);
        bank.write(0, 3, 5, 2, 7);
        Banks.turnAll(bank, 1, 3, 7);
        CHECKS.equal("smooth with some gone", 3, bank.smooth(0));
        CHECKS.equal("lines with some gone", "0>1:9 4>2:5 3>5:2", Banks.linesOn(bank, 0));
        CHECKS.equal("atRisk(0): the witness of the later lines", 7, bank.atRisk(0));
        CHECKS.equal("atRisk(2): the witness of the first", 9, bank.atRisk(2));
        CHECKS.equal("atRisk(4): no witness", 0, bank.atRisk(4));
        CHECKS.equal("isWitnessed(0, 0)", true, bank.isWitnessed(0, 0));
    }

    private static void smoothRefused() {
        TallyWax bank = Banks.with(5);
        bank.write(0, 0, 1, 9, 7);
        bank.write(0, 2, 3, 5, 7);
        Banks.turnAll(bank, 1, 2, 3, 4, 5, 6, 7);
        refuses(STATE, bank, "smooth, the first line without a witness", () -> bank.smooth(0));
        Banks.turnAll(bank, 2, 0);
        refuses(STATE, bank, "smooth, the second line without a witness", () -> bank.smooth(0));
        bank.turn(2);
        refuses(STATE, bank, "smooth, nobody is there", () -> bank.smooth(0));
        CHECKS.equal("the lines of a refused smoothing", "0>1:9 2>3:5", Banks.linesOn(bank, 0));
        bank.turn(7);
        CHECKS.equal("smooth, one is there", 2, bank.smooth(0));
        TallyWax other = Banks.with(5);
        other.write(0, 2, 6, 5, 7);
        Banks.turnAll(other, 0, 1, 3, 4, 5, 7);
        refuses(STATE, other, "smooth, debtor and creditor alone are there", () -> other.smooth(0));
    }

    private static void smoothEmptyAndSettled() {
        TallyWax bank = Banks.with(5);
        bank.write(0, 0, 1, 9, 7);
        bank.write(0, 1, 2, 9, 7);
        bank.write(0, 2, 0, 9, 7);
        Banks.turnAll(bank, 0, 1, 2, 3, 4, 5, 6, 7);
        CHECKS.equal("linesSmoothed of what is even, all gone", 0, bank.linesSmoothed(0));
        CHECKS.equal("smooth what is even, all gone", 0, bank.smooth(0));
        CHECKS.equal("smooth an empty tablet", 0, bank.smooth(0));
        CHECKS.equal("lines()", 0, bank.lines());
        CHECKS.equal("melted() after smoothing", 0, bank.melted());
        CHECKS.equal("denied() after smoothing", 0, bank.denied());
    }

    private static void smoothToMoreLines() {
        TallyWax bank = Banks.with(5);
        bank.write(0, 0, 1, 5, 7);
        bank.write(0, 0, 2, 5, 7);
        bank.write(0, 3, 4, 7, 7);
        CHECKS.equal("linesSmoothed to more lines", 4, bank.linesSmoothed(0));
        CHECKS.equal("bestToSmooth with nothing to win", -1, bank.bestToSmooth());
        CHECKS.equal("smooth to more lines", 4, bank.smooth(0));
        CHECKS.equal("lines that are more", "0>4:7 3>1:5 0>2:3 3>2:2", Banks.linesOn(bank, 0));
    }

    // ---- promises 7 to 9

    private static void turn() {
        TallyWax bank = new TallyWax();
        for (int person = 0; person < 8; person++) {
            CHECKS.equal("turn(" + person + ")", false, bank.turn(person));
            CHECKS.equal("isThere(" + person + ")", false, bank.isThere(person));
            CHECKS.equal("isThere(7)", person < 7, bank.isThere(7));
        }
        CHECKS.equal("turn(3) back", true, bank.turn(3));
        CHECKS.equal("isThere(3)", true, bank.isThere(3));
        for (int person : new int[] {-1, 8, LEAST, GREATEST}) {
            refuses(INDEX, bank, "turn(" + person + ")", () -> bank.turn(person));
            refuses(INDEX, bank, "isThere(" + person + ")", () -> bank.isThere(person));
        }
    }

    private static void carry() {
        TallyWax bank = Banks.with(1, 1);
        CHECKS.equal("carry(1)", true, bank.carry(1));
        CHECKS.equal("isInCellar(1)", true, bank.isInCellar(1));
        CHECKS.equal("isInCellar(0)", false, bank.isInCellar(0));
        CHECKS.equal("carry(1) back", false, bank.carry(1));
        CHECKS.equal("isInCellar(1) back", false, bank.isInCellar(1));
        for (int tablet : new int[] {-1, 2, 8, LEAST, GREATEST}) {
            refuses(INDEX, bank, "carry(" + tablet + ")", () -> bank.carry(tablet));
        }
    }

    private static void setHeat() {
        TallyWax bank = Banks.with(1);
        CHECKS.equal("setHeat(0, 9)", 0, bank.setHeat(0, 9));
        CHECKS.equal("setHeat(9, 3)", 0, bank.setHeat(9, 3));
        CHECKS.equal("setHeat(0, 0)", 9, bank.setHeat(0, 0));
        CHECKS.equal("setHeat(9, 4)", 3, bank.setHeat(9, 4));
        for (int number : new int[] {-1, 10, LEAST, GREATEST}) {
            refuses(INDEX, bank, "setHeat(" + number + ", 0)", () -> bank.setHeat(number, 0));
            refuses(INDEX, bank, "setHeat(" + number + ", 10)", () -> bank.setHeat(number, 10));
        }
        for (int heat : new int[] {-1, 10, LEAST, GREATEST}) {
            refuses(ARGUMENT, bank, "setHeat(9, " + heat + ")", () -> bank.setHeat(9, heat));
        }
        CHECKS.equal("setHeat(9, 0) after refusals", 4, bank.setHeat(9, 0));
    }

    // ---- promise 10

    private static void pass() {
        TallyWax bank = Banks.with(3, 4, 3, 5);
        for (int tablet = 0; tablet < 4; tablet++) {
            bank.write(tablet, 0, 1, 10, 2);
            bank.write(tablet, 1, 2, 20, 3);
        }
        bank.carry(2);
        bank.setHeat(1, 4);
        CHECKS.equal("pass(1), no heat", 0, bank.pass(1));
        CHECKS.equal("year()", 1, bank.year());
        CHECKS.equal("pass(1), heat 4", 2, bank.pass(1));
        CHECKS.equal("linesOf the one that melts", 0, bank.linesOf(0));
        CHECKS.equal("linesOf the one as hard as the heat", 2, bank.linesOf(1));
        CHECKS.equal("linesOf the one in the cellar", 2, bank.linesOf(2));
        CHECKS.equal("linesOf the harder one", 2, bank.linesOf(3));
        CHECKS.equal("write where it melted", 0, bank.write(0, 4, 5, 6, 7));
        CHECKS.equal("lines where it melted", "4>5:6", Banks.linesOn(bank, 0));
        bank.carry(2);
        CHECKS.equal("pass(9), the heat is not yet there again", 0, bank.pass(9));
        CHECKS.equal("pass(1), the heat comes again", 3, bank.pass(1));
        CHECKS.equal("year()", 12, bank.year());
    }

    private static void passManyYears() {
        TallyWax bank = Banks.with(1, 2);
        bank.setHeat(9, 3);
        bank.write(0, 0, 1, 10, 2);
        bank.write(1, 0, 1, 10, 2);
        CHECKS.equal("pass(9)", 0, bank.pass(9));
        CHECKS.equal("pass(40)", 2, bank.pass(40));
        CHECKS.equal("year()", 49, bank.year());
        CHECKS.equal("melted()", 2, bank.melted());
        CHECKS.equal("isInCellar(0) after melting", false, bank.isInCellar(0));
        CHECKS.equal("tablets() after melting", 2, bank.tablets());
    }

    private static void passWrong() {
        TallyWax bank = Banks.with(1);
        bank.write(0, 0, 1, 10, 2);
        bank.setHeat(0, 9);
        for (int years : new int[] {0, -1, 41, LEAST, GREATEST}) {
            refuses(ARGUMENT, bank, "pass(" + years + ")", () -> bank.pass(years));
            refuses(ARGUMENT, bank, "meltsIn(" + years + ")", () -> bank.meltsIn(years));
        }
    }

    // ---- promises 11 to 15

    private static void counts() {
        TallyWax bank = new TallyWax();
        for (int number = 0; number < 8; number++) {
            CHECKS.equal("tablets()", number, bank.tablets());
            bank.addTablet(9);
            bank.write(number, 0, 1, 10, 2);
            bank.write(number, 2, 1, 10, 0);
            CHECKS.equal("lines()", 2 * number + 2, bank.lines());
        }
        CHECKS.equal("tablets() of 8", 8, bank.tablets());
        bank.pay(0, 0, 10);
        CHECKS.equal("lines() after pay", 15, bank.lines());
        bank.pass(40);
        bank.pass(3);
        CHECKS.equal("year()", 43, bank.year());
    }

    private static void melted() {
        TallyWax bank = Banks.with(1, 8);
        bank.setHeat(0, 2);
        bank.setHeat(2, 9);
        bank.write(0, 0, 1, 10, 2);
        bank.write(1, 0, 1, 10, 2);
        bank.pass(1);
        CHECKS.equal("melted() of one", 1, bank.melted());
        bank.write(0, 0, 1, 10, 2);
        bank.write(0, 0, 1, 10, 2);
        bank.pass(2);
        CHECKS.equal("melted() of four in all", 4, bank.melted());
    }

    private static void denied() {
        TallyWax bank = Banks.with(1);
        bank.write(0, 0, 1, 10, 2);
        bank.write(0, 0, 1, 25, 2);
        bank.turn(2);
        bank.pay(0, 0, 4);
        bank.deny(0, 0);
        CHECKS.equal("denied() of what was left", 6, bank.denied());
        bank.deny(0, 0);
        CHECKS.equal("denied() in all", 31, bank.denied());
    }

    // ---- promises 17 to 22

    private static void questionsOfTablets() {
        TallyWax bank = Banks.with(1, 1);
        for (int tablet : new int[] {-1, 2, 8, LEAST, GREATEST}) {
            refuses(INDEX, bank, "linesOf(" + tablet + ")", () -> bank.linesOf(tablet));
            refuses(INDEX, bank, "isInCellar(" + tablet + ")", () -> bank.isInCellar(tablet));
            refuses(INDEX, bank, "linesSmoothed(" + tablet + ")", () -> bank.linesSmoothed(tablet));
            refuses(INDEX, bank, "yearsUntilMelted(" + tablet + ")", () -> bank.yearsUntilMelted(tablet));
            refuses(INDEX, bank, "hasOn(" + tablet + ", 0)", () -> bank.hasOn(tablet, 0));
            refusesLine(bank, tablet, 0);
        }
        bank.write(1, 0, 1, 10, 2);
        CHECKS.equal("linesOf(0)", 0, bank.linesOf(0));
        CHECKS.equal("linesOf(1)", 1, bank.linesOf(1));
    }

    private static void refusesLine(TallyWax bank, int tablet, int line) {
        String place = "(" + tablet + ", " + line + ")";
        refuses(INDEX, bank, "debtorOf" + place, () -> bank.debtorOf(tablet, line));
        refuses(INDEX, bank, "creditorOf" + place, () -> bank.creditorOf(tablet, line));
        refuses(INDEX, bank, "amountOf" + place, () -> bank.amountOf(tablet, line));
        refuses(INDEX, bank, "isWitnessed" + place, () -> bank.isWitnessed(tablet, line));
    }

    private static void questionsOfLines() {
        TallyWax bank = Banks.with(1, 1);
        bank.write(1, 3, 4, 50, 5);
        bank.write(1, 6, 7, 60, 0);
        CHECKS.equal("debtorOf(1, 0)", 3, bank.debtorOf(1, 0));
        CHECKS.equal("debtorOf(1, 1)", 6, bank.debtorOf(1, 1));
        CHECKS.equal("creditorOf(1, 0)", 4, bank.creditorOf(1, 0));
        CHECKS.equal("creditorOf(1, 1)", 7, bank.creditorOf(1, 1));
        CHECKS.equal("amountOf(1, 0)", 50, bank.amountOf(1, 0));
        CHECKS.equal("amountOf(1, 1)", 60, bank.amountOf(1, 1));
        for (int line : new int[] {-1, 2, 12, LEAST, GREATEST}) {
            refusesLine(bank, 1, line);
        }
        refusesLine(bank, 0, 0);
        for (int i = 0; i < 10; i++) {
            bank.write(1, 3, 4, 50, 5);
        }
        refusesLine(bank, 1, 12);
        bank.pay(1, 11, 50);
        refusesLine(bank, 1, 11);
    }

    private static void isWitnessed() {
        TallyWax bank = Banks.with(1);
        bank.write(0, 0, 1, 10, 2);
        bank.write(0, 2, 1, 10, 7);
        CHECKS.equal("isWitnessed(0, 0)", true, bank.isWitnessed(0, 0));
        Banks.turnAll(bank, 0, 1);
        CHECKS.equal("isWitnessed(0, 0), both sides gone", true, bank.isWitnessed(0, 0));
        bank.turn(2);
        CHECKS.equal("isWitnessed(0, 0), the witness gone", false, bank.isWitnessed(0, 0));
        CHECKS.equal("isWitnessed(0, 1)", true, bank.isWitnessed(0, 1));
        bank.turn(2);
        CHECKS.equal("isWitnessed(0, 0), the witness there again", true, bank.isWitnessed(0, 0));
    }

    // ---- promises 23 to 29

    private static void has() {
        TallyWax bank = Banks.with(1, 1);
        bank.write(0, 0, 1, 10, 2);
        bank.write(0, 1, 2, 3, 4);
        bank.write(1, 1, 0, 25, 2);
        bank.turn(1);
        CHECKS.equal("hasOn(0, 0)", -10, bank.hasOn(0, 0));
        CHECKS.equal("hasOn(0, 1)", 7, bank.hasOn(0, 1));
        CHECKS.equal("hasOn(1, 1)", -25, bank.hasOn(1, 1));
        CHECKS.equal("hasOn(1, 2): a witness has nothing", 0, bank.hasOn(1, 2));
        CHECKS.equal("has(0)", 15, bank.has(0));
        CHECKS.equal("has(1)", -18, bank.has(1));
        CHECKS.equal("has(2)", 3, bank.has(2));
        CHECKS.equal("has(7)", 0, bank.has(7));
        for (int person : new int[] {-1, 8, LEAST, GREATEST}) {
            refuses(INDEX, bank, "has(" + person + ")", () -> bank.has(person));
            refuses(INDEX, bank, "hasOn(0, " + person + ")", () -> bank.hasOn(0, person));
        }
    }

    private static void owes() {
        TallyWax bank = Banks.with(1, 1);
        bank.write(0, 0, 1, 10, 2);
        bank.write(0, 0, 1, 5, 3);
        bank.write(1, 0, 1, 100, 2);
        bank.write(1, 1, 0, 7, 2);
        CHECKS.equal("owes(0, 1)", 115, bank.owes(0, 1));
        CHECKS.equal("owes(1, 0)", 7, bank.owes(1, 0));
        CHECKS.equal("owes(0, 2)", 0, bank.owes(0, 2));
        CHECKS.equal("owes(0, 0)", 0, bank.owes(0, 0));
        for (int person : new int[] {-1, 8, LEAST, GREATEST}) {
            refuses(INDEX, bank, "owes(" + person + ", 0)", () -> bank.owes(person, 0));
            refuses(INDEX, bank, "owes(0, " + person + ")", () -> bank.owes(0, person));
        }
    }

    private static void total() {
        TallyWax bank = Banks.with(1, 1);
        CHECKS.equal("total() without lines", 0, bank.total());
        bank.write(0, 0, 1, 999, 2);
        bank.write(1, 1, 0, 500, 2);
        CHECKS.equal("total()", 1499, bank.total());
        bank.pay(0, 0, 99);
        CHECKS.equal("total() after pay", 1400, bank.total());
    }

    private static void richest() {
        TallyWax bank = Banks.with(1, 1);
        CHECKS.equal("richest() of nobody", 0, bank.richest());
        bank.write(0, 0, 5, 10, 2);
        CHECKS.equal("richest()", 5, bank.richest());
        bank.write(1, 1, 7, 10, 2);
        CHECKS.equal("richest() of several", 5, bank.richest());
        bank.write(1, 1, 7, 1, 2);
        CHECKS.equal("richest() by 1", 7, bank.richest());
        bank.turn(7);
        CHECKS.equal("richest() is gone", 7, bank.richest());
        bank.write(0, 2, 0, 500, 3);
        CHECKS.equal("richest() is 0", 0, bank.richest());
    }

    private static void owesAlong() {
        TallyWax bank = Banks.with(1, 1);
        CHECKS.equal("owesAlong(0) without lines", 0, bank.owesAlong(0));
        bank.write(0, 7, 5, 1, 0);
        bank.write(1, 5, 6, 1, 0);
        bank.write(0, 6, 1, 1, 0);
        bank.write(1, 1, 3, 1, 0);
        bank.write(0, 2, 3, 1, 0);
        bank.write(0, 7, 3, 1, 0);
        CHECKS.equal("owesAlong(7)", 4, bank.owesAlong(7));
        CHECKS.equal("owesAlong(5)", 3, bank.owesAlong(5));
        CHECKS.equal("owesAlong(2)", 1, bank.owesAlong(2));
        CHECKS.equal("owesAlong(3)", 0, bank.owesAlong(3));
        CHECKS.equal("owesAlong(4)", 0, bank.owesAlong(4));
        bank.write(0, 3, 7, 1, 0);
        CHECKS.equal("owesAlong(7) in a round", 4, bank.owesAlong(7));
        CHECKS.equal("owesAlong(2) into a round", 5, bank.owesAlong(2));
        bank.write(0, 4, 0, 1, 1);
        bank.write(1, 0, 2, 1, 1);
        CHECKS.equal("owesAlong(4) by 0", 7, bank.owesAlong(4));
        CHECKS.equal("owesAlong(0) by 2", 6, bank.owesAlong(0));
        for (int person : new int[] {-1, 8, LEAST, GREATEST}) {
            refuses(INDEX, bank, "owesAlong(" + person + ")", () -> bank.owesAlong(person));
        }
    }

    private static void isRound() {
        TallyWax bank = Banks.with(1, 1);
        CHECKS.equal("isRound() without lines", false, bank.isRound());
        bank.write(0, 4, 5, 1, 0);
        bank.write(1, 5, 6, 1, 0);
        bank.write(0, 4, 6, 1, 0);
        CHECKS.equal("isRound() of two ways to one", false, bank.isRound());
        bank.write(1, 6, 7, 1, 0);
        bank.write(1, 7, 5, 1, 0);
        CHECKS.equal("isRound() over two tablets", true, bank.isRound());
        bank.pay(1, 0, 1);
        CHECKS.equal("isRound() no more", false, bank.isRound());
        bank.write(0, 5, 4, 1, 0);
        CHECKS.equal("isRound() of two", true, bank.isRound());
    }

    // ---- promises 30 to 32

    private static void linesSmoothed() {
        TallyWax bank = Banks.with(1, 1);
        CHECKS.equal("linesSmoothed of an empty tablet", 0, bank.linesSmoothed(0));
        bank.write(0, 0, 1, 10, 2);
        bank.write(0, 0, 1, 10, 2);
        bank.write(0, 1, 2, 5, 3);
        CHECKS.equal("linesSmoothed(0)", 2, bank.linesSmoothed(0));
        CHECKS.equal("linesSmoothed(1)", 0, bank.linesSmoothed(1));
        Banks.turnAll(bank, 2, 3, 4, 5, 6, 7);
        CHECKS.equal("linesSmoothed(0), no witness for one", -1, bank.linesSmoothed(0));
        bank.turn(2);
        CHECKS.equal("linesSmoothed(0), a witness for each", 2, bank.linesSmoothed(0));
        bank.turn(1);
        CHECKS.equal("linesSmoothed(0), none for 0 and 2", -1, bank.linesSmoothed(0));
        CHECKS.equal("lines after linesSmoothed", "0>1:10 0>1:10 1>2:5", Banks.linesOn(bank, 0));
    }

    private static void bestToSmooth() {
        TallyWax bank = Banks.with(1, 1, 1, 1);
        CHECKS.equal("bestToSmooth() without lines", -1, bank.bestToSmooth());
        bank.write(0, 0, 1, 10, 2);
        CHECKS.equal("bestToSmooth() with nothing to win", -1, bank.bestToSmooth());
        bank.write(2, 0, 1, 10, 2);
        bank.write(2, 0, 1, 10, 2);
        CHECKS.equal("bestToSmooth() with 1 to win", 2, bank.bestToSmooth());
        bank.write(3, 3, 4, 10, 2);
        bank.write(3, 3, 4, 10, 2);
        CHECKS.equal("bestToSmooth() of several", 2, bank.bestToSmooth());
        bank.write(3, 4, 3, 10, 2);
        CHECKS.equal("bestToSmooth() with 2 to win", 3, bank.bestToSmooth());
        Banks.turnAll(bank, 1, 2, 4, 5, 6, 7, 3);
        CHECKS.equal("bestToSmooth(), by 0 alone", 3, bank.bestToSmooth());
        Banks.turnAll(bank, 0, 3);
        CHECKS.equal("bestToSmooth(), by 3 alone", 2, bank.bestToSmooth());
        bank.turn(3);
        CHECKS.equal("bestToSmooth(), by nobody", -1, bank.bestToSmooth());
        CHECKS.equal("bestToSmooth() of a new object", -1, new TallyWax().bestToSmooth());
        bestToSmoothOfFullTablet();
    }

    private static void bestToSmoothOfFullTablet() {
        TallyWax bank = Banks.with(1, 1, 1, 1, 1, 1, 1, 1);
        for (int i = 0; i < 6; i++) {
            bank.write(7, 0, 1, 10, 2);
            bank.write(7, 1, 0, 10, 2);
            bank.write(3, 0, 1, 10, 2);
            bank.write(3, 1, 2, 10, 3);
        }
        CHECKS.equal("bestToSmooth() of 12 and 11 to win", 7, bank.bestToSmooth());
    }

    private static void atRisk() {
        TallyWax bank = Banks.with(1, 1);
        bank.write(0, 0, 1, 10, 2);
        bank.write(0, 2, 1, 20, 3);
        bank.write(1, 0, 1, 40, 2);
        CHECKS.equal("atRisk(2)", 50, bank.atRisk(2));
        CHECKS.equal("atRisk(3)", 20, bank.atRisk(3));
        CHECKS.equal("atRisk(0)", 0, bank.atRisk(0));
        bank.turn(2);
        CHECKS.equal("atRisk(2), gone", 0, bank.atRisk(2));
        CHECKS.equal("atRisk(3), 2 gone", 20, bank.atRisk(3));
        bank.turn(2);
        CHECKS.equal("atRisk(2), there again", 50, bank.atRisk(2));
        for (int person : new int[] {-1, 8, LEAST, GREATEST}) {
            refuses(INDEX, bank, "atRisk(" + person + ")", () -> bank.atRisk(person));
        }
    }

    // ---- promises 33 to 36

    private static void yearsUntilMelted() {
        TallyWax bank = Banks.with(4, 5, 9);
        CHECKS.equal("yearsUntilMelted(0) without heat", -1, bank.yearsUntilMelted(0));
        bank.setHeat(0, 5);
        bank.setHeat(9, 9);
        CHECKS.equal("yearsUntilMelted(0) this year", 1, bank.yearsUntilMelted(0));
        CHECKS.equal("yearsUntilMelted(1) as hard as the heat", 10, bank.yearsUntilMelted(1));
        CHECKS.equal("yearsUntilMelted(2) of the hardest", -1, bank.yearsUntilMelted(2));
        bank.pass(1);
        CHECKS.equal("yearsUntilMelted(0) a year later", 9, bank.yearsUntilMelted(0));
        bank.setHeat(9, 0);
        CHECKS.equal("yearsUntilMelted(0) by the heat just past", 10, bank.yearsUntilMelted(0));
        bank.pass(5);
        CHECKS.equal("yearsUntilMelted(0) five years later", 5, bank.yearsUntilMelted(0));
        CHECKS.equal("yearsUntilMelted(1)", -1, bank.yearsUntilMelted(1));
        bank.carry(0);
        CHECKS.equal("yearsUntilMelted(0) in the cellar", -1, bank.yearsUntilMelted(0));
    }

    private static void meltsIn() {
        TallyWax bank = Banks.with(1, 2, 3, 1);
        for (int tablet = 0; tablet < 4; tablet++) {
            bank.write(tablet, 0, 1, 1 << tablet, 2);
            bank.write(tablet, 0, 1, 1 << tablet + 4, 2);
        }
        CHECKS.equal("meltsIn(40) without heat", 0, bank.meltsIn(40));
        bank.carry(3);
        bank.setHeat(0, 2);
        bank.setHeat(1, 2);
        bank.setHeat(5, 3);
        CHECKS.equal("meltsIn(1)", 17, bank.meltsIn(1));
        CHECKS.equal("meltsIn(5)", 17, bank.meltsIn(5));
        CHECKS.equal("meltsIn(6)", 51, bank.meltsIn(6));
        CHECKS.equal("meltsIn(40)", 51, bank.meltsIn(40));
        CHECKS.equal("lines() after meltsIn", 8, bank.lines());
        bank.pass(6);
        CHECKS.equal("meltsIn(40) after all that can has melted", 0, bank.meltsIn(40));
        bank.carry(3);
        CHECKS.equal("meltsIn(4) out of the cellar", 0, bank.meltsIn(4));
        CHECKS.equal("meltsIn(5) out of the cellar", 136, bank.meltsIn(5));
    }

    private static void meanAmount() {
        TallyWax bank = Banks.with(1, 1);
        CHECKS.equal("meanAmount() without lines", 0.0, bank.meanAmount());
        bank.write(0, 0, 1, 10, 2);
        CHECKS.equal("meanAmount() of one", 10.0, bank.meanAmount());
        bank.write(1, 0, 1, 5, 2);
        CHECKS.equal("meanAmount() of two", 7.5, bank.meanAmount());
        bank.write(1, 0, 1, 5, 2);
        CHECKS.equal("meanAmount() of three", 20.0 / 3.0, bank.meanAmount());
    }

    private static long mixed(long start, long... numbers) {
        long d = start;
        for (long number : numbers) {
            d = d * 31 + number;
        }
        return d;
    }

    private static void digestOfNewObject() {
        long due = mixed(2357, 0, 0, 0, 0, 0, 0, 0, 0, -1, 0);
        for (int person = 0; person < 8; person++) {
            due = mixed(due, 1, 0, 0, 0, 0, 0, 0, 0, 0, 0, 0, 0);
        }
        CHECKS.equal("digest() of a new object", due, new TallyWax().digest());
    }

    private static void digest() {
        TallyWax bank = Banks.with(3, 1);
        bank.setHeat(0, 2);
        bank.setHeat(6, 4);
        bank.write(1, 0, 1, 1, 2);
        bank.write(1, 0, 1, 1, 2);
        bank.pass(1);
        bank.write(0, 0, 1, 10, 2);
        bank.write(0, 1, 0, 4, 3);
        bank.write(0, 1, 0, 7, 3);
        bank.turn(3);
        bank.deny(0, 2);
        bank.carry(1);
        CHECKS.equal("digest()", digestDue(1, 0, 6), bank.digest());
        bank.pass(1);
        CHECKS.equal("digest() a year later", digestDue(2, 14, 5), bank.digest());
    }

    /** What digest() has to answer, by the year, by meltsIn(5), and by yearsUntilMelted(0). */
    private static long digestDue(int year, int meltsInFive, int yearsLeft) {
        long due = mixed(2357, year, 2, 2, 2, 7, 14, 1, 1, 0, meltsInFive);
        due = mixed(due, 1, -6, 1, 0, 0, 10, 0, 0, 0, 0, 0, 0);
        due = mixed(due, 1, 6, 1, 0, 4, 0, 0, 0, 0, 0, 0, 0);
        due = mixed(due, 1, 0, 0, 10, 0, 0, 0, 0, 0, 0, 0, 0);
        due = mixed(due, 0, 0, 0, 0, 0, 0, 0, 0, 0, 0, 0, 0);
        for (int person = 4; person < 8; person++) {
            due = mixed(due, 1, 0, 0, 0, 0, 0, 0, 0, 0, 0, 0, 0);
        }
        due = mixed(due, 0, yearsLeft, 1, 0, 1, 10, 1, 1, 0, 4, 0);
        return mixed(due, 1, -1, 0);
    }

    private static void questionsChangeNothing() {
        TallyWax bank = Banks.with(3, 1);
        bank.write(0, 0, 1, 10, 2);
        bank.write(0, 1, 0, 4, 3);
        bank.setHeat(3, 9);
        long before = bank.digest();
        bank.linesSmoothed(0);
        bank.bestToSmooth();
        bank.atRisk(2);
        bank.yearsUntilMelted(0);
        bank.meltsIn(40);
        bank.meanAmount();
        bank.owesAlong(0);
        bank.isRound();
        CHECKS.equal("digest() after questions", before, bank.digest());
        CHECKS.equal("lines after questions", "0>1:10 1>0:4", Banks.linesOn(bank, 0));
        CHECKS.equal("year() after questions", 0, bank.year());
    }
}
