import java.util.ArrayList;
import java.util.List;

/**
 * The document once more, written another way than the program: with lists that are copied,
 * years that are really let go by on a copy, and ways that are walked step by step.
 */
final class Model {
    static final class Line {
        final int debtor;
        final int creditor;
        final int witness;
        int amount;

        Line(int debtor, int creditor, int amount, int witness) {
            this.debtor = debtor;
            this.creditor = creditor;
            this.amount = amount;
            this.witness = witness;
        }

        Line copy() {
            return new Line(debtor, creditor, amount, witness);
        }
    }

    static final class Tablet {
        int hardness;
        boolean inCellar;
        List<Line> lines = new ArrayList<>();

        Tablet copy() {
            Tablet copy = new Tablet();
            copy.hardness = hardness;
            copy.inCellar = inCellar;
            for (Line line : lines) {
                copy.lines.add(line.copy());
            }
            return copy;
        }
    }

    private final List<Tablet> tablets = new ArrayList<>();
    private final List<Integer> gone = new ArrayList<>();
    private final int[] heat = new int[10];
    private int year;
    private int melted;
    private int denied;

    private Model copy() {
        Model copy = new Model();
        for (Tablet tablet : tablets) {
            copy.tablets.add(tablet.copy());
        }
        copy.gone.addAll(gone);
        System.arraycopy(heat, 0, copy.heat, 0, 10);
        copy.year = year;
        copy.melted = melted;
        copy.denied = denied;
        return copy;
    }

    private static void index(boolean good) {
        if (!good) {
            throw new IndexOutOfBoundsException();
        }
    }

    private static void argument(boolean good) {
        if (!good) {
            throw new IllegalArgumentException();
        }
    }

    private static void state(boolean good) {
        if (!good) {
            throw new IllegalStateException();
        }
    }

    private static boolean within(int number, int least, int most) {
        return least <= number && number <= most;
    }

    private Tablet tablet(int number) {
        index(within(number, 0, tablets.size() - 1));
        return tablets.get(number);
    }

    private Line line(int tablet, int line) {
        List<Line> lines = tablet(tablet).lines;
        index(within(line, 0, lines.size() - 1));
        return lines.get(line);
    }

    private List<Line> allLines() {
        List<Line> all = new ArrayList<>();
        for (Tablet tablet : tablets) {
            all.addAll(tablet.lines);
        }
        return all;
    }

    private static int sum(List<Line> lines) {
        int sum = 0;
        for (Line line : lines) {
            sum += line.amount;
        }
        return sum;
    }

    // ---- tablets and lines

    int addTablet(int hardness) {
        argument(within(hardness, 1, 9));
        state(tablets.size() < 8);
        Tablet tablet = new Tablet();
        tablet.hardness = hardness;
        tablets.add(tablet);
        return tablets.size() - 1;
    }

    int write(int tablet, int debtor, int creditor, int amount, int witness) {
        List<Line> lines = tablet(tablet).lines;
        index(within(debtor, 0, 7) && within(creditor, 0, 7) && within(witness, 0, 7));
        argument(debtor != creditor && debtor != witness && creditor != witness);
        argument(within(amount, 1, 999));
        state(lines.size() < 12);
        state(!gone.contains(debtor) && !gone.contains(creditor) && !gone.contains(witness));
        lines.add(new Line(debtor, creditor, amount, witness));
        return lines.size() - 1;
    }

    int pay(int tablet, int number, int amount) {
        Line line = line(tablet, number);
        argument(within(amount, 1, line.amount));
        line.amount -= amount;
        tablet(tablet).lines.removeIf(any -> any.amount == 0);
        return line.amount;
    }

    int deny(int tablet, int number) {
        Line line = line(tablet, number);
        state(gone.contains(line.witness) && !gone.contains(line.debtor));
        tablet(tablet).lines.remove(line);
        denied += line.amount;
        return line.amount;
    }

    int smooth(int tablet) {
        List<Line> smoothed = smoothed(tablet(tablet).lines);
        state(smoothed != null);
        tablet(tablet).lines = smoothed;
        return smoothed.size();
    }

    /** What a person has by what was there, and by the lines that are new, which count as paid. */
    private static int hasBy(List<Line> lines, List<Line> fresh, int person) {
        int has = 0;
        for (Line line : lines) {
            has += (line.creditor == person ? line.amount : 0) - (line.debtor == person ? line.amount : 0);
        }
        for (Line line : fresh) {
            has += (line.debtor == person ? line.amount : 0) - (line.creditor == person ? line.amount : 0);
        }
        return has;
    }

    private List<Line> smoothed(List<Line> lines) {
        List<Line> fresh = new ArrayList<>();
        while (true) {
            int debtor = 0;
            int creditor = 0;
            for (int person = 7; person >= 0; person--) {
                int has = hasBy(lines, fresh, person);
                debtor = has <= hasBy(lines, fresh, debtor) ? person : debtor;
                creditor = has >= hasBy(lines, fresh, creditor) ? person : creditor;
            }
            int least = hasBy(lines, fresh, debtor);
            if (least >= 0) {
                return fresh;
            }
            int witness = 0;
            while (gone.contains(witness) || witness == debtor || witness == creditor) {
                witness++;
            }
            if (witness > 7) {
                return null;
            }
            fresh.add(new Line(debtor, creditor, Math.min(-least, hasBy(lines, fresh, creditor)), witness));
        }
    }

    // ---- persons, cellar, years

    boolean turn(int person) {
        index(within(person, 0, 7));
        if (gone.contains(person)) {
            gone.remove(Integer.valueOf(person));
            return true;
        }
        gone.add(person);
        return false;
    }

    boolean carry(int tablet) {
        tablet(tablet).inCellar = !tablet(tablet).inCellar;
        return tablet(tablet).inCellar;
    }

    int setHeat(int number, int newHeat) {
        index(within(number, 0, 9));
        argument(within(newHeat, 0, 9));
        int before = heat[number];
        heat[number] = newHeat;
        return before;
    }

    int pass(int years) {
        argument(within(years, 1, 40));
        int before = melted;
        for (int i = 0; i < years; i++) {
            for (Tablet tablet : tablets) {
                if (!tablet.inCellar && tablet.hardness < heat[year % 10]) {
                    melted += tablet.lines.size();
                    tablet.lines = new ArrayList<>();
                }
            }
            year++;
        }
        return melted - before;
    }

    // ---- what there is

    int year() {
        return year;
    }

    int tablets() {
        return tablets.size();
    }

    int lines() {
        return allLines().size();
    }

    int melted() {
        return melted;
    }

    int denied() {
        return denied;
    }

    boolean isThere(int person) {
        index(within(person, 0, 7));
        return !gone.contains(person);
    }

    int linesOf(int tablet) {
        return tablet(tablet).lines.size();
    }

    boolean isInCellar(int tablet) {
        return tablet(tablet).inCellar;
    }

    int debtorOf(int tablet, int line) {
        return line(tablet, line).debtor;
    }

    int creditorOf(int tablet, int line) {
        return line(tablet, line).creditor;
    }

    int amountOf(int tablet, int line) {
        return line(tablet, line).amount;
    }

    boolean isWitnessed(int tablet, int line) {
        return !gone.contains(line(tablet, line).witness);
    }

    // ---- what it comes to

    int has(int person) {
        index(within(person, 0, 7));
        return hasBy(allLines(), List.of(), person);
    }

    int hasOn(int tablet, int person) {
        List<Line> lines = tablet(tablet).lines;
        index(within(person, 0, 7));
        return hasBy(lines, List.of(), person);
    }

    int owes(int debtor, int creditor) {
        index(within(debtor, 0, 7) && within(creditor, 0, 7));
        List<Line> all = allLines();
        all.removeIf(line -> line.debtor != debtor || line.creditor != creditor);
        return sum(all);
    }

    int total() {
        return sum(allLines());
    }

    int richest() {
        int richest = 7;
        for (int person = 6; person >= 0; person--) {
            richest = has(person) >= has(richest) ? person : richest;
        }
        return richest;
    }

    /** Walks on from a person, and notes everybody whom the walk comes to. */
    private void walk(int from, List<Line> all, List<Integer> met) {
        for (Line line : all) {
            if (line.debtor == from && !met.contains(line.creditor)) {
                met.add(line.creditor);
                walk(line.creditor, all, met);
            }
        }
    }

    int owesAlong(int person) {
        index(within(person, 0, 7));
        List<Integer> met = new ArrayList<>();
        walk(person, allLines(), met);
        return met.contains(person) ? met.size() - 1 : met.size();
    }

    /** Takes away, again and again, the lines of creditors that owe nothing: a round stays. */
    boolean isRound() {
        List<Line> left = allLines();
        int before;
        do {
            before = left.size();
            List<Integer> debtors = new ArrayList<>();
            for (Line line : left) {
                debtors.add(line.debtor);
            }
            left.removeIf(line -> !debtors.contains(line.creditor));
        } while (left.size() < before);
        return before > 0;
    }

    // ---- what would be

    int linesSmoothed(int tablet) {
        List<Line> smoothed = smoothed(tablet(tablet).lines);
        return smoothed == null ? -1 : smoothed.size();
    }

    int bestToSmooth() {
        for (int saved = 12; saved > 0; saved--) {
            for (int tablet = 0; tablet < tablets.size(); tablet++) {
                int left = linesSmoothed(tablet);
                if (left >= 0 && linesOf(tablet) - left == saved) {
                    return tablet;
                }
            }
        }
        return -1;
    }

    private int witnessedAmount() {
        List<Line> all = allLines();
        all.removeIf(line -> gone.contains(line.witness));
        return sum(all);
    }

    int atRisk(int person) {
        if (!isThere(person)) {
            return 0;
        }
        Model later = copy();
        later.turn(person);
        return witnessedAmount() - later.witnessedAmount();
    }

    int yearsUntilMelted(int tablet) {
        tablet(tablet);
        Model later = copy();
        Tablet probe = later.tablet(tablet);
        for (int years = 1; years <= 40; years++) {
            probe.lines.add(new Line(0, 1, 1, 2));
            later.pass(1);
            if (probe.lines.isEmpty()) {
                return years;
            }
        }
        return -1;
    }

    int meltsIn(int years) {
        Model later = copy();
        later.pass(years);
        return total() - later.total();
    }

    double meanAmount() {
        return lines() == 0 ? 0 : (double) total() / lines();
    }

    private static long number(boolean so) {
        return so ? 1 : 0;
    }

    long digest() {
        List<Long> all = new ArrayList<>(List.of((long) year(), (long) tablets(), (long) lines(), (long) melted()));
        all.addAll(List.of((long) denied(), (long) total(), (long) richest(), number(isRound())));
        all.addAll(List.of((long) bestToSmooth(), (long) meltsIn(5)));
        for (int person = 0; person < 8; person++) {
            all.addAll(List.of(number(isThere(person)), (long) has(person)));
            all.addAll(List.of((long) owesAlong(person), (long) atRisk(person)));
            for (int creditor = 0; creditor < 8; creditor++) {
                all.add((long) owes(person, creditor));
            }
        }
        for (int tablet = 0; tablet < tablets(); tablet++) {
            all.add(number(isInCellar(tablet)));
            all.addAll(List.of((long) yearsUntilMelted(tablet), (long) linesSmoothed(tablet)));
            for (int line = 0; line < linesOf(tablet); line++) {
                all.addAll(List.of((long) debtorOf(tablet, line), (long) creditorOf(tablet, line)));
                all.addAll(List.of((long) amountOf(tablet, line), number(isWitnessed(tablet, line))));
            }
        }
        long d = 2357;
        for (long x : all) {
            d = d * 31 + x;
        }
        return d;
    }
}
