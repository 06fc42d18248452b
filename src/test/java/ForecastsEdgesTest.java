import java.math.BigInteger;
import java.util.ArrayList;
import java.util.List;

/** The boundary cases that promises 30 to 36 name: what would be. */
public final class ForecastsEdgesTest {
    private static final Edges EDGES = new Edges();
    private static final Checks CHECKS = EDGES.checks;
    private static final String NO_TABLET = "Throws `IndexOutOfBoundsException` if there is no such tablet";

    public static void main(String[] args) {
        linesSmoothed();
        bestToSmooth();
        atRisk();
        yearsUntilMelted();
        meltsIn();
        meanAmount();
        digest();
        EDGES.close("ForecastsEdgesTest", 30, 36);
    }

    // ---- promise 30

    private static void linesSmoothed() {
        EDGES.holds(30, "Returns how many lines smoothing it would leave, by whoever is there", () -> {
            CHECKS.equal("linesSmoothed of an empty tablet", 0, Banks.withLines(0).linesSmoothed(0));
            CHECKS.equal("linesSmoothed of one line", 1, Banks.withLines(1).linesSmoothed(0));
            CHECKS.equal("linesSmoothed of a full tablet", 3, Banks.withLines(12).linesSmoothed(0));
            CHECKS.equal("linesSmoothed of one that melted", 0, Banks.withNoneLeft().linesSmoothed(0));
            CHECKS.equal("linesSmoothed to the most lines", 7, sevenOweOne().linesSmoothed(0));
            CHECKS.equal("linesSmoothed of what is even", 0, evenWithNobodyThere().linesSmoothed(0));
        });
        EDGES.holds(30, "-1 if it would be refused", () -> {
            TallyWax bank = Banks.with(5);
            bank.write(0, 2, 3, 5, 7);
            bank.write(0, 0, 1, 9, 7);
            Banks.turnAll(bank, 0, 1, 3, 4, 5, 6, 7);
            CHECKS.equal("linesSmoothed, no witness for the last line", -1, bank.linesSmoothed(0));
            Banks.turnAll(bank, 0, 2);
            CHECKS.equal("linesSmoothed, no witness for the first line", -1, bank.linesSmoothed(0));
            bank.turn(2);
            CHECKS.equal("linesSmoothed, a witness for each", 2, bank.linesSmoothed(0));
        });
        EDGES.holds(30, "(nothing is changed)", () -> {
            EDGES.changesNothing(Banks::busy, "linesSmoothed(2)", bank -> bank.linesSmoothed(2));
            EDGES.changesNothing(ForecastsEdgesTest::withoutWitnesses, "linesSmoothed that answers -1",
                    bank -> CHECKS.equal("linesSmoothed(0)", -1, bank.linesSmoothed(0)));
        });
        EDGES.holds(30, NO_TABLET, () -> EDGES.tabletBounds("linesSmoothed", TallyWax::linesSmoothed));
    }

    private static TallyWax sevenOweOne() {
        TallyWax bank = Banks.with(5);
        for (int debtor = 1; debtor < 8; debtor++) {
            bank.write(0, debtor, 0, debtor, debtor % 7 + 1);
        }
        return bank;
    }

    private static TallyWax evenWithNobodyThere() {
        TallyWax bank = Banks.with(5);
        bank.write(0, 0, 1, 9, 7);
        bank.write(0, 1, 0, 9, 7);
        Banks.turnAll(bank, 0, 1, 2, 3, 4, 5, 6, 7);
        return bank;
    }

    /** A full tablet and an empty one, and nobody is there. */
    private static TallyWax withoutWitnesses() {
        TallyWax bank = Banks.withLines(12);
        bank.addTablet(3);
        Banks.turnAll(bank, 0, 1, 2, 3, 4, 5, 6);
        return bank;
    }

    // ---- promise 31

    private static void bestToSmooth() {
        EDGES.holds(31, "Returns the tablet with the greatest linesOf() less linesSmoothed()", () -> {
            CHECKS.equal("bestToSmooth(), the last", 7, withDoubles(0, 0, 0, 1, 0, 0, 0, 2).bestToSmooth());
            CHECKS.equal("bestToSmooth(), the first", 0, withDoubles(2, 0, 0, 1, 0, 0, 0, 1).bestToSmooth());
            CHECKS.equal("bestToSmooth() of 10 and 11 to win", 1, withDoubles(10, 11).bestToSmooth());
            CHECKS.equal("bestToSmooth() of 12 and 11 to win", 0, elevenAndTwelveToWin().bestToSmooth());
        });
        EDGES.holds(31, "of several the smallest number", () -> {
            CHECKS.equal("bestToSmooth(), first and last", 0, withDoubles(3, 1, 0, 0, 0, 0, 0, 3).bestToSmooth());
            CHECKS.equal("bestToSmooth(), the last two", 6, withDoubles(0, 0, 0, 0, 0, 1, 2, 2).bestToSmooth());
        });
        EDGES.holds(31, "those whose smoothing would be refused do not count", () -> {
            TallyWax bank = withDoubles(2, 5);
            bank.write(0, 3, 2, 4, 0);
            bank.write(0, 2, 3, 4, 0);
            bank.pay(0, 0, 10);
            bank.pay(0, 0, 10);
            bank.pay(0, 0, 10);
            Banks.turnAll(bank, 2, 3, 4, 5, 6, 7);
            CHECKS.equal("bestToSmooth(), 5 to win refused, 2 to win not", 0, bank.bestToSmooth());
            bank.turn(7);
            CHECKS.equal("bestToSmooth(), none refused", 1, bank.bestToSmooth());
        });
        EDGES.holds(31, "-1 if it is less than 1 for all", ForecastsEdgesTest::nothingToWin);
        EDGES.holds(31, "(nothing is changed)", () -> {
            EDGES.changesNothing(Banks::busy, "bestToSmooth()", TallyWax::bestToSmooth);
            EDGES.changesNothing(ForecastsEdgesTest::withoutWitnesses, "bestToSmooth() that answers -1",
                    bank -> CHECKS.equal("bestToSmooth()", -1, bank.bestToSmooth()));
        });
    }

    /** A tablet for each number, on which smoothing wins so many lines. */
    private static TallyWax withDoubles(int... toWin) {
        TallyWax bank = new TallyWax();
        for (int tablet = 0; tablet < toWin.length; tablet++) {
            bank.addTablet(5);
            for (int line = 0; line <= toWin[tablet]; line++) {
                bank.write(tablet, 0, 1, 10, 7);
            }
        }
        return bank;
    }

    private static TallyWax elevenAndTwelveToWin() {
        TallyWax bank = Banks.with(5, 5);
        for (int line = 0; line < 12; line++) {
            bank.write(0, line % 2, 1 - line % 2, 10, 7);
            bank.write(1, 0, 1, 10, 7);
        }
        return bank;
    }

    private static void nothingToWin() {
        CHECKS.equal("bestToSmooth() without tablets", -1, new TallyWax().bestToSmooth());
        CHECKS.equal("bestToSmooth() without lines", -1, Banks.with(5, 5).bestToSmooth());
        CHECKS.equal("bestToSmooth() with 0 to win", -1, withDoubles(0, 0, 0, 0, 0, 0, 0, 0).bestToSmooth());
        CHECKS.equal("bestToSmooth() with 1 to win", 7, withDoubles(0, 0, 0, 0, 0, 0, 0, 1).bestToSmooth());
        CHECKS.equal("bestToSmooth() with 1 line more to come", -1, oneLineMoreToCome().bestToSmooth());
        CHECKS.equal("bestToSmooth() where all are refused", -1, withoutWitnesses().bestToSmooth());
    }

    private static TallyWax oneLineMoreToCome() {
        TallyWax bank = Banks.with(5);
        bank.write(0, 0, 1, 5, 7);
        bank.write(0, 0, 2, 5, 7);
        bank.write(0, 3, 4, 7, 7);
        return bank;
    }

    // ---- promise 32

    private static void atRisk() {
        String sentence = "Returns the amounts of all lines that would be witnessed no more, if it went now, added";
        EDGES.holds(32, sentence, () -> {
            CHECKS.equal("atRisk(0) without tablets", 0, new TallyWax().atRisk(0));
            CHECKS.equal("atRisk(7) without lines", 0, Banks.with(5).atRisk(7));
            TallyWax bank = Banks.with(5, 5);
            bank.write(0, 1, 2, 999, 0);
            bank.write(1, 2, 1, 1, 0);
            bank.write(1, 0, 1, 50, 7);
            CHECKS.equal("atRisk(0)", 1000, bank.atRisk(0));
            CHECKS.equal("atRisk(7)", 50, bank.atRisk(7));
            CHECKS.equal("atRisk(1), no witness", 0, bank.atRisk(1));
            Banks.turnAll(bank, 1, 2);
            CHECKS.equal("atRisk(0), debtors and creditors gone", 1000, bank.atRisk(0));
        });
        EDGES.holds(32, "0 if it is gone", () -> {
            TallyWax bank = Banks.withLines(12);
            CHECKS.equal("atRisk(7), gone", 0, bank.atRisk(7));
            bank.turn(7);
            CHECKS.equal("atRisk(7), back", 186, bank.atRisk(7));
        });
        EDGES.holds(32, "(nothing is changed)", () -> {
            EDGES.changesNothing(Banks::busy, "atRisk of one that is there", bank -> bank.atRisk(7));
            EDGES.changesNothing(Banks::busy, "atRisk of one that is gone", bank -> bank.atRisk(6));
        });
        EDGES.holds(32, "Throws `IndexOutOfBoundsException` if person is not 0 to 7", () ->
                EDGES.personBounds("atRisk", TallyWax::atRisk));
    }

    // ---- promise 33

    private static void yearsUntilMelted() {
        EDGES.holds(33, "Returns in how many years it melts, if it stays where it is: 1 to 10", () -> {
            for (int year = 0; year <= 21; year++) {
                for (int number = 0; number < 10; number++) {
                    meltsWhenItSays(year, number);
                }
            }
        });
        EDGES.holds(33, "-1 if never", () -> {
            CHECKS.equal("yearsUntilMelted of the softest by no heat", -1, Banks.with(1).yearsUntilMelted(0));
            CHECKS.equal("yearsUntilMelted of hardness 1 by heat 1", -1, withEachHeat(1, 1).yearsUntilMelted(0));
            CHECKS.equal("yearsUntilMelted of hardness 1 by heat 2", 1, withEachHeat(1, 2).yearsUntilMelted(0));
            CHECKS.equal("yearsUntilMelted of hardness 8 by heat 8", -1, withEachHeat(8, 8).yearsUntilMelted(0));
            CHECKS.equal("yearsUntilMelted of hardness 8 by heat 9", 1, withEachHeat(8, 9).yearsUntilMelted(0));
            CHECKS.equal("yearsUntilMelted of the hardest by heat 9", -1, withEachHeat(9, 9).yearsUntilMelted(0));
        });
        EDGES.holds(33, "if it stays where it is", () -> {
            TallyWax bank = withEachHeat(1, 9);
            bank.carry(0);
            CHECKS.equal("yearsUntilMelted in the cellar", -1, bank.yearsUntilMelted(0));
            bank.carry(0);
            CHECKS.equal("yearsUntilMelted out of the cellar", 1, bank.yearsUntilMelted(0));
        });
        EDGES.holds(33, "(nothing is changed)", () -> {
            EDGES.changesNothing(Banks::busy, "yearsUntilMelted(0)", bank -> bank.yearsUntilMelted(0));
            EDGES.changesNothing(Banks::busy, "yearsUntilMelted that answers -1",
                    bank -> CHECKS.equal("yearsUntilMelted(2)", -1, bank.yearsUntilMelted(2)));
        });
        EDGES.holds(33, NO_TABLET, () -> EDGES.tabletBounds("yearsUntilMelted", TallyWax::yearsUntilMelted));
    }

    /** One tablet with a line of ten, in that year; one number alone is warm enough for it. */
    private static TallyWax warmBy(int number, int year) {
        TallyWax bank = Banks.with(4);
        if (year > 0) {
            bank.pass(year);
        }
        for (int other = 0; other < 10; other++) {
            bank.setHeat(other, other == number ? 5 : 4);
        }
        bank.write(0, 0, 1, 10, 2);
        return bank;
    }

    private static void meltsWhenItSays(int year, int number) {
        String what = "in the year " + year + ", number " + number + " warm: ";
        int due = 1;
        while ((year + due - 1) % 10 != number) {
            due++;
        }
        TallyWax bank = warmBy(number, year);
        CHECKS.equal(what + "yearsUntilMelted(0)", due, bank.yearsUntilMelted(0));
        if (due > 1) {
            CHECKS.equal(what + "pass so many years less 1", 0, bank.pass(due - 1));
            CHECKS.equal(what + "yearsUntilMelted(0) then", 1, bank.yearsUntilMelted(0));
        }
        CHECKS.equal(what + "pass(1) then", 1, bank.pass(1));
        CHECKS.equal(what + "yearsUntilMelted(0) of the empty tablet", 10, bank.yearsUntilMelted(0));
    }

    private static TallyWax withEachHeat(int hardness, int heat) {
        TallyWax bank = Banks.with(hardness);
        for (int number = 0; number < 10; number++) {
            bank.setHeat(number, heat);
        }
        return bank;
    }

    // ---- promise 34

    private static void meltsIn() {
        String sentence = "Returns the amounts of all lines that will melt in them, added, if nothing is done by hand";
        EDGES.holds(34, sentence, () -> {
            for (int year : new int[] {0, 1, 9, 10, 11, 19, 20}) {
                for (int number = 0; number < 10; number++) {
                    meltsInSoManyYears(year, number);
                }
            }
        });
        EDGES.holds(34, sentence, ForecastsEdgesTest::nothingMelts);
        EDGES.holds(34, sentence, ForecastsEdgesTest::meltsOnce);
        EDGES.holds(34, "(nothing is changed)", () -> {
            EDGES.changesNothing(Banks::busy, "meltsIn(1)", bank -> bank.meltsIn(1));
            EDGES.changesNothing(Banks::busy, "meltsIn(40)", bank ->
                    CHECKS.equal("meltsIn(40)", 314, bank.meltsIn(40)));
        });
        EDGES.holds(34, "Throws `IllegalArgumentException` if years is not 1 to 40", () ->
                EDGES.bounds(Edges.ARGUMENT, Banks::busy, 1, 40, "meltsIn", TallyWax::meltsIn));
    }

    private static void meltsInSoManyYears(int year, int number) {
        TallyWax bank = warmBy(number, year);
        int left = bank.yearsUntilMelted(0);
        for (int years = 1; years <= 12; years++) {
            String what = "meltsIn(" + years + ") in the year " + year + ", number " + number + " warm";
            CHECKS.equal(what, years >= left ? 10 : 0, bank.meltsIn(years));
        }
    }

    private static void nothingMelts() {
        CHECKS.equal("meltsIn(40) without tablets", 0, new TallyWax().meltsIn(40));
        CHECKS.equal("meltsIn(40) without lines", 0, withEachHeat(1, 9).meltsIn(40));
        TallyWax inCellar = withEachHeat(1, 9);
        inCellar.write(0, 0, 1, 10, 2);
        inCellar.carry(0);
        CHECKS.equal("meltsIn(40) in the cellar", 0, inCellar.meltsIn(40));
        TallyWax hard = withEachHeat(9, 9);
        hard.write(0, 0, 1, 10, 2);
        CHECKS.equal("meltsIn(40) of the hardest", 0, hard.meltsIn(40));
    }

    private static void meltsOnce() {
        TallyWax bank = new TallyWax();
        for (int tablet = 0; tablet < 8; tablet++) {
            bank.addTablet(8);
            for (int line = 0; line < 12; line++) {
                bank.write(tablet, 0, 1, 999, 2);
            }
        }
        bank.setHeat(0, 9);
        CHECKS.equal("meltsIn(40) of a full bank", 96 * 999, bank.meltsIn(40));
        CHECKS.equal("meltsIn(1) of a full bank", 96 * 999, bank.meltsIn(1));
        bank.carry(7);
        bank.pass(40);
        CHECKS.equal("total() after pass(40), one in the cellar", 12 * 999, bank.total());
    }

    // ---- promise 35

    private static void meanAmount() {
        EDGES.holds(35, "Returns the mean amount of lines", () -> {
            CHECKS.equal("meanAmount() of 1 and 2", 1.5, meanOf(1, 2));
            CHECKS.equal("meanAmount() of 1, 1 and 2", 4.0 / 3.0, meanOf(1, 1, 2));
            CHECKS.equal("meanAmount() of the least", 1.0, meanOf(1));
            CHECKS.equal("meanAmount() of the greatest", 999.0, meanOf(999, 999, 999));
            CHECKS.equal("meanAmount() of a full tablet", 15.5, Banks.withLines(12).meanAmount());
        });
        EDGES.holds(35, "0 without any", () -> {
            CHECKS.equal("meanAmount() without tablets", 0.0, new TallyWax().meanAmount());
            CHECKS.equal("meanAmount() without lines", 0.0, Banks.with(5, 5).meanAmount());
            CHECKS.equal("meanAmount() with all melted", 0.0, Banks.withNoneLeft().meanAmount());
        });
    }

    /** The mean amount of these, the one after the other on two tablets. */
    private static double meanOf(int... amounts) {
        TallyWax bank = Banks.with(5, 5);
        for (int line = 0; line < amounts.length; line++) {
            bank.write(line % 2, 0, 1, amounts[line], 2);
        }
        return bank.meanAmount();
    }

    // ---- promise 36

    private static void digest() {
        EDGES.holds(36, "A number d starts with 2357; for each of the following numbers x, d becomes d * 31 + x, "
                + "which wraps around as a 64-bit integer", ForecastsEdgesTest::wrapsAround);
        EDGES.holds(36, "(whether something is so counts 1 or 0)", ForecastsEdgesTest::oneOrZero);
        EDGES.holds(36, "meltsIn(5)", ForecastsEdgesTest::fiveYears);
        EDGES.holds(36, "for each tablet isInCellar(), yearsUntilMelted(), linesSmoothed(), and for each of its lines "
                + "debtorOf(), creditorOf(), amountOf(), isWitnessed()", ForecastsEdgesTest::tabletsAndLines);
        EDGES.holds(36, "Returns d.", () ->
                CHECKS.equal("digest() asked twice", Banks.busy().digest(), askedTwice(Banks.busy())));
    }

    private static long askedTwice(TallyWax bank) {
        bank.digest();
        return bank.digest();
    }

    private static void wrapsAround() {
        boolean below = false;
        boolean above = false;
        for (int tablets = 0; tablets <= 8; tablets++) {
            BigInteger unbound = unboundDigest(Banks.withTablets(tablets));
            long digest = Banks.withTablets(tablets).digest();
            CHECKS.equal("that d without bound is past 64 bits", true, unbound.bitLength() > 64);
            CHECKS.equal("digest() with tablets " + tablets, unbound.longValue(), digest);
            below |= digest < 0;
            above |= digest > 0;
        }
        CHECKS.equal("that some digests are below 0 and some above", true, below && above);
    }

    private static BigInteger unboundDigest(TallyWax bank) {
        BigInteger d = BigInteger.valueOf(2357);
        for (long x : numbersOfDigest(bank)) {
            d = d.multiply(BigInteger.valueOf(31)).add(BigInteger.valueOf(x));
        }
        return d;
    }

    private static List<Long> numbersOfDigest(TallyWax bank) {
        List<Long> all = new ArrayList<>();
        add(all, bank.year(), bank.tablets(), bank.lines(), bank.melted(), bank.denied(), bank.total());
        add(all, bank.richest(), number(bank.isRound()), bank.bestToSmooth(), bank.meltsIn(5));
        for (int person = 0; person < 8; person++) {
            add(all, number(bank.isThere(person)), bank.has(person), bank.owesAlong(person), bank.atRisk(person));
            for (int creditor = 0; creditor < 8; creditor++) {
                add(all, bank.owes(person, creditor));
            }
        }
        for (int tablet = 0; tablet < bank.tablets(); tablet++) {
            add(all, number(bank.isInCellar(tablet)), bank.yearsUntilMelted(tablet), bank.linesSmoothed(tablet));
            for (int line = 0; line < bank.linesOf(tablet); line++) {
                add(all, bank.debtorOf(tablet, line), bank.creditorOf(tablet, line), bank.amountOf(tablet, line));
                add(all, number(bank.isWitnessed(tablet, line)));
            }
        }
        return all;
    }

    private static void add(List<Long> all, int... numbers) {
        for (int number : numbers) {
            all.add((long) number);
        }
    }

    private static int number(boolean so) {
        return so ? 1 : 0;
    }

    private static void digestIsDue(String what, Edges.Making making) {
        CHECKS.equal("digest() " + what, unboundDigest(making.make()).longValue(), making.make().digest());
    }

    private static void oneOrZero() {
        digestIsDue("with all there and no round", () -> withDoubles(1, 1));
        digestIsDue("with nobody there", ForecastsEdgesTest::withoutWitnesses);
        digestIsDue("with a round and nobody there", ForecastsEdgesTest::evenWithNobodyThere);
        digestIsDue("of a busy bank", Banks::busy);
    }

    private static void fiveYears() {
        CHECKS.equal("meltsIn(5), melts in the fifth year", 10, warmBy(4, 0).meltsIn(5));
        digestIsDue("with a tablet that melts in the fifth year", () -> warmBy(4, 0));
        CHECKS.equal("meltsIn(5), melts in the sixth year", 0, warmBy(5, 0).meltsIn(5));
        digestIsDue("with a tablet that melts in the sixth year", () -> warmBy(5, 0));
    }

    private static void tabletsAndLines() {
        digestIsDue("without tablets", TallyWax::new);
        digestIsDue("with an empty tablet", () -> Banks.withLines(0));
        digestIsDue("with a full tablet", () -> Banks.withLines(12));
        digestIsDue("with 8 tablets", () -> withDoubles(4, 3, 2, 1, 0, 1, 2, 3));
        digestIsDue("with one paid", Banks::withElevenLeft);
        digestIsDue("with all melted", Banks::withNoneLeft);
        digestIsDue("with one tablet in the cellar", ForecastsEdgesTest::withLastInCellar);
    }

    private static TallyWax withLastInCellar() {
        TallyWax bank = Banks.withTablets(8);
        bank.setHeat(9, 9);
        bank.carry(7);
        return bank;
    }
}
