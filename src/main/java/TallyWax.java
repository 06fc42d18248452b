/** A bank that writes debts on wax. */
public final class TallyWax {
    private static final int PERSONS = 8;
    private static final int MOST_TABLETS = 8;
    private static final int MOST_LINES = 12;
    private static final int MOST_HARDNESS = 9;
    private static final int MOST_AMOUNT = 999;
    private static final int HEATS = 10;
    private static final int MOST_HEAT = 9;
    private static final int MOST_YEARS = 40;
    private static final int DIGEST_START = 2357;
    private static final int DIGEST_YEARS = 5;
    private static final int NONE = -1;

    private final boolean[] there = new boolean[PERSONS];
    private final Tablet[] shelf = new Tablet[MOST_TABLETS];
    private final int[] heats = new int[HEATS];
    private final Smoothing smoothing = new Smoothing();
    /** For each person those one gets to from it, as bits; made anew by each call that asks. */
    private final int[] reached = new int[PERSONS];
    private int tabletCount;
    private int yearNow;
    private int meltedLines;
    private int deniedAmount;

    public TallyWax() {
        for (int person = 0; person < PERSONS; person++) {
            there[person] = true;
        }
    }

    // ---- tablets and lines

    public int addTablet(int hardness) throws IllegalArgumentException, IllegalStateException {
        if (hardness < 1 || hardness > MOST_HARDNESS) {
            throw new IllegalArgumentException("hardness is not 1 to 9");
        }
        int number = tabletCount;
        if (number < 0 || number >= MOST_TABLETS) {
            throw new IllegalStateException("there are 8 tablets");
        }
        shelf[number] = new Tablet(hardness);
        tabletCount = number + 1;
        return number;
    }

    public int write(int tablet, int debtor, int creditor, int amount, int witness)
            throws IndexOutOfBoundsException, IllegalArgumentException, IllegalStateException {
        LineList lines = tabletAt(tablet).lines;
        checkPerson(debtor);
        checkPerson(creditor);
        checkPerson(witness);
        if (debtor == creditor || debtor == witness || creditor == witness) {
            throw new IllegalArgumentException("two of the three are the same");
        }
        if (amount < 1 || amount > MOST_AMOUNT) {
            throw new IllegalArgumentException("amount is not 1 to 999");
        }
        if (lines.count >= MOST_LINES) {
            throw new IllegalStateException("the tablet has 12 lines");
        }
        if (!isPresent(debtor) || !isPresent(creditor) || !isPresent(witness)) {
            throw new IllegalStateException("one of the three is gone");
        }
        int number = lines.count;
        lines.append(debtor, creditor, amount, witness);
        return number;
    }

    public int pay(int tablet, int line, int amount) throws IndexOutOfBoundsException, IllegalArgumentException {
        LineList lines = linesWith(tablet, line);
        if (amount < 1 || amount > lines.amount[line]) {
            throw new IllegalArgumentException("amount is not 1 to the amount of the line");
        }
        int left = lines.amount[line] - amount;
        if (left == 0) {
            lines.takeOut(line);
        } else {
            lines.amount[line] = left;
        }
        return left;
    }

    public int deny(int tablet, int line) throws IndexOutOfBoundsException, IllegalStateException {
        LineList lines = linesWith(tablet, line);
        if (isPresent(lines.witness[line])) {
            throw new IllegalStateException("the line is witnessed");
        }
        if (!isPresent(lines.debtor[line])) {
            throw new IllegalStateException("the debtor is gone");
        }
        int amount = lines.amount[line];
        lines.takeOut(line);
        deniedAmount += amount;
        return amount;
    }

    public int smooth(int tablet) throws IndexOutOfBoundsException, IllegalStateException {
        LineList lines = tabletAt(tablet).lines;
        if (!smoothing.plan(lines, there)) {
            throw new IllegalStateException("the smoothing is refused");
        }
        lines.become(smoothing.newLines);
        return lines.count;
    }

    // ---- persons, cellar, years

    public boolean turn(int person) throws IndexOutOfBoundsException {
        checkPerson(person);
        there[person] = !there[person];
        return there[person];
    }

    public boolean carry(int tablet) throws IndexOutOfBoundsException {
        Tablet carried = tabletAt(tablet);
        carried.inCellar = !carried.inCellar;
        return carried.inCellar;
    }

    public int setHeat(int number, int heat) throws IndexOutOfBoundsException, IllegalArgumentException {
        if (number < 0 || number >= HEATS) {
            throw new IndexOutOfBoundsException("number is not 0 to 9");
        }
        if (heat < 0 || heat > MOST_HEAT) {
            throw new IllegalArgumentException("heat is not 0 to 9");
        }
        int before = heats[number];
        heats[number] = heat;
        return before;
    }

    public int pass(int years) throws IllegalArgumentException {
        checkYears(years);
        int gone = 0;
        for (int i = 0; i < years; i++) {
            gone += passOneYear();
        }
        meltedLines += gone;
        return gone;
    }

    // ---- what there is

    public int year() {
        return yearNow;
    }

    public int tablets() {
        return tabletCount;
    }

    public int lines() {
        int sum = 0;
        for (Tablet tablet : shelf) {
            if (tablet != null) {
                sum += tablet.lines.count;
            }
        }
        return sum;
    }

    public int melted() {
        return meltedLines;
    }

    public int denied() {
        return deniedAmount;
    }

    public boolean isThere(int person) throws IndexOutOfBoundsException {
        checkPerson(person);
        return there[person];
    }

    public int linesOf(int tablet) throws IndexOutOfBoundsException {
        return tabletAt(tablet).lines.count;
    }

    public boolean isInCellar(int tablet) throws IndexOutOfBoundsException {
        return tabletAt(tablet).inCellar;
    }

    public int debtorOf(int tablet, int line) throws IndexOutOfBoundsException {
        return linesWith(tablet, line).debtor[line];
    }

    public int creditorOf(int tablet, int line) throws IndexOutOfBoundsException {
        return linesWith(tablet, line).creditor[line];
    }

    public int amountOf(int tablet, int line) throws IndexOutOfBoundsException {
        return linesWith(tablet, line).amount[line];
    }

    public boolean isWitnessed(int tablet, int line) throws IndexOutOfBoundsException {
        return isPresent(linesWith(tablet, line).witness[line]);
    }

    // ---- what it comes to

    public int has(int person) throws IndexOutOfBoundsException {
        checkPerson(person);
        return balanceOf(person);
    }

    public int hasOn(int tablet, int person) throws IndexOutOfBoundsException {
        LineList lines = tabletAt(tablet).lines;
        checkPerson(person);
        return lines.balanceOf(person);
    }

    public int owes(int debtor, int creditor) throws IndexOutOfBoundsException {
        checkPerson(debtor);
        checkPerson(creditor);
        int sum = 0;
        for (Tablet tablet : shelf) {
            if (tablet != null) {
                sum += tablet.lines.owedBetween(debtor, creditor);
            }
        }
        return sum;
    }

    public int total() {
        int sum = 0;
        for (Tablet tablet : shelf) {
            if (tablet != null) {
                sum += tablet.lines.sum();
            }
        }
        return sum;
    }

    public int richest() {
        int best = 0;
        int most = balanceOf(0);
        for (int person = 1; person < PERSONS; person++) {
            int balance = balanceOf(person);
            if (balance > most) {
                best = person;
                most = balance;
            }
        }
        return best;
    }

    public int owesAlong(int person) throws IndexOutOfBoundsException {
        checkPerson(person);
        followLines();
        return Integer.bitCount(reached[person] & ~(1 << person));
    }

    public boolean isRound() {
        followLines();
        for (int person = 0; person < PERSONS; person++) {
            if (holds(reached[person], person)) {
                return true;
            }
        }
        return false;
    }

    // ---- what would be

    public int linesSmoothed(int tablet) throws IndexOutOfBoundsException {
        return linesLeftOn(tabletAt(tablet));
    }

    public int bestToSmooth() {
        int best = NONE;
        int mostSaved = 0;
        for (int number = 0; number < MOST_TABLETS; number++) {
            Tablet tablet = shelf[number];
            int saved = tablet == null ? 0 : linesSavedOn(tablet);
            if (saved > mostSaved) {
                best = number;
                mostSaved = saved;
            }
        }
        return best;
    }

    public int atRisk(int person) throws IndexOutOfBoundsException {
        checkPerson(person);
        if (!there[person]) {
            return 0;
        }
        int sum = 0;
        for (Tablet tablet : shelf) {
            if (tablet != null) {
                sum += tablet.lines.sumWitnessedBy(person);
            }
        }
        return sum;
    }

    public int yearsUntilMelted(int tablet) throws IndexOutOfBoundsException {
        return yearsLeftOf(tabletAt(tablet));
    }

    public int meltsIn(int years) throws IllegalArgumentException {
        checkYears(years);
        int sum = 0;
        for (Tablet tablet : shelf) {
            if (tablet != null) {
                int left = yearsLeftOf(tablet);
                // a tablet has no lines left to melt a second time
                if (left != NONE && left <= years) {
                    sum += tablet.lines.sum();
                }
            }
        }
        return sum;
    }

    public double meanAmount() {
        int count = lines();
        if (count == 0) {
            return 0;
        }
        return (double) total() / (double) count;
    }

    public long digest() {
        long d = DIGEST_START;
        d = mixed(d, yearNow);
        d = mixed(d, tabletCount);
        d = mixed(d, lines());
        d = mixed(d, meltedLines);
        d = mixed(d, deniedAmount);
        d = mixed(d, total());
        d = mixed(d, richest());
        d = mixed(d, asNumber(isRound()));
        d = mixed(d, bestToSmooth());
        d = mixed(d, meltsIn(DIGEST_YEARS));
        for (int person = 0; person < PERSONS; person++) {
            d = mixedWithPerson(d, person);
        }
        for (Tablet tablet : shelf) {
            if (tablet != null) {
                d = mixedWithTablet(d, tablet);
            }
        }
        return d;
    }

    // ---- looking things up

    private Tablet tabletAt(int number) {
        if (number < 0 || number >= MOST_TABLETS) {
            throw new IndexOutOfBoundsException("there is no such tablet");
        }
        Tablet tablet = shelf[number];
        if (tablet == null) {
            throw new IndexOutOfBoundsException("there is no such tablet");
        }
        return tablet;
    }

    /** The lines of a tablet, which have this line among them. */
    private LineList linesWith(int tablet, int line) {
        LineList lines = tabletAt(tablet).lines;
        if (line < 0 || line >= lines.count) {
            throw new IndexOutOfBoundsException("the tablet has no such line");
        }
        return lines;
    }

    private static boolean isPerson(int person) {
        return person >= 0 && person < PERSONS;
    }

    private static void checkPerson(int person) {
        if (!isPerson(person)) {
            throw new IndexOutOfBoundsException("a person is not 0 to 7");
        }
    }

    private static void checkYears(int years) {
        if (years < 1 || years > MOST_YEARS) {
            throw new IllegalArgumentException("years is not 1 to 40");
        }
    }

    private boolean isPresent(int person) {
        return isPerson(person) && there[person];
    }

    // ---- years and heat

    /** Lets one year go by and answers how many lines melted in it. */
    private int passOneYear() {
        int heat = heatAfter(0);
        int gone = 0;
        for (Tablet tablet : shelf) {
            if (tablet != null && tablet.meltsAt(heat)) {
                gone += tablet.lines.count;
                tablet.lines.count = 0;
            }
        }
        yearNow++;
        return gone;
    }

    private int heatAfter(int years) {
        // floorMod, for it stays an index even if the year should ever wrap around
        return heats[Math.floorMod(yearNow + years, HEATS)];
    }

    private int yearsLeftOf(Tablet tablet) {
        // the heat comes again after 10 years: what holds out that long never melts
        for (int ahead = 0; ahead < HEATS; ahead++) {
            if (tablet.meltsAt(heatAfter(ahead))) {
                return ahead + 1;
            }
        }
        return NONE;
    }

    // ---- sums, ways and smoothing

    private int balanceOf(int person) {
        int sum = 0;
        for (Tablet tablet : shelf) {
            if (tablet != null) {
                sum += tablet.lines.balanceOf(person);
            }
        }
        return sum;
    }

    /** Notes in reached, for each person, whom one gets to along one line or more. */
    private void followLines() {
        for (int person = 0; person < PERSONS; person++) {
            reached[person] = creditorBits(person);
        }
        for (int via = 0; via < PERSONS; via++) {
            for (int from = 0; from < PERSONS; from++) {
                if (holds(reached[from], via)) {
                    reached[from] |= reached[via];
                }
            }
        }
    }

    private int creditorBits(int debtor) {
        int bits = 0;
        for (Tablet tablet : shelf) {
            if (tablet != null) {
                bits |= tablet.lines.creditorBits(debtor);
            }
        }
        return bits;
    }

    private static boolean holds(int bits, int person) {
        return (bits >> person & 1) != 0;
    }

    private int linesLeftOn(Tablet tablet) {
        return smoothing.plan(tablet.lines, there) ? smoothing.newLines.count : NONE;
    }

    private int linesSavedOn(Tablet tablet) {
        int left = linesLeftOn(tablet);
        return left == NONE ? 0 : tablet.lines.count - left;
    }

    // ---- the digest

    private static long mixed(long d, long x) {
        return d * 31 + x;
    }

    private static int asNumber(boolean so) {
        return so ? 1 : 0;
    }

    private long mixedWithPerson(long start, int person) {
        long d = mixed(start, asNumber(isThere(person)));
        d = mixed(d, has(person));
        d = mixed(d, owesAlong(person));
        d = mixed(d, atRisk(person));
        for (int creditor = 0; creditor < PERSONS; creditor++) {
            d = mixed(d, owes(person, creditor));
        }
        return d;
    }

    private long mixedWithTablet(long start, Tablet tablet) {
        LineList lines = tablet.lines;
        long d = mixed(start, asNumber(tablet.inCellar));
        d = mixed(d, yearsLeftOf(tablet));
        d = mixed(d, linesLeftOn(tablet));
        for (int line = 0; line < lines.count; line++) {
            d = mixed(d, lines.debtor[line]);
            d = mixed(d, lines.creditor[line]);
            d = mixed(d, lines.amount[line]);
            d = mixed(d, asNumber(isPresent(lines.witness[line])));
        }
        return d;
    }

    private static final class Tablet {
        private final int hardness;
        private boolean inCellar;
        private final LineList lines = new LineList();

        private Tablet(int hardness) {
            this.hardness = hardness;
        }

        private boolean meltsAt(int heat) {
            return !inCellar && hardness < heat;
        }
    }

    /** At most 12 lines in the order in which they were written; count is how many there are. */
    private static final class LineList {
        private final int[] debtor = new int[MOST_LINES];
        private final int[] creditor = new int[MOST_LINES];
        private final int[] amount = new int[MOST_LINES];
        private final int[] witness = new int[MOST_LINES];
        private int count;

        /** Does nothing if there are 12 lines; the callers see to it that there are fewer. */
        private void append(int newDebtor, int newCreditor, int newAmount, int newWitness) {
            int line = count;
            if (line < 0 || line >= MOST_LINES) {
                return;
            }
            debtor[line] = newDebtor;
            creditor[line] = newCreditor;
            amount[line] = newAmount;
            witness[line] = newWitness;
            count = line + 1;
        }

        /** Takes out a line that is there; those behind it move one number ahead. */
        private void takeOut(int line) {
            int all = count;
            count = line;
            for (int next = line + 1; next < all; next++) {
                append(debtor[next], creditor[next], amount[next], witness[next]);
            }
        }

        private void become(LineList other) {
            count = 0;
            for (int line = 0; line < other.count; line++) {
                append(other.debtor[line], other.creditor[line], other.amount[line], other.witness[line]);
            }
        }

        private int sum() {
            int sum = 0;
            for (int line = 0; line < count; line++) {
                sum += amount[line];
            }
            return sum;
        }

        private int balanceOf(int person) {
            int balance = 0;
            for (int line = 0; line < count; line++) {
                if (creditor[line] == person) {
                    balance += amount[line];
                } else if (debtor[line] == person) {
                    balance -= amount[line];
                }
            }
            return balance;
        }

        private int owedBetween(int from, int to) {
            int sum = 0;
            for (int line = 0; line < count; line++) {
                if (debtor[line] == from && creditor[line] == to) {
                    sum += amount[line];
                }
            }
            return sum;
        }

        private int sumWitnessedBy(int person) {
            int sum = 0;
            for (int line = 0; line < count; line++) {
                if (witness[line] == person) {
                    sum += amount[line];
                }
            }
            return sum;
        }

        private int creditorBits(int person) {
            int bits = 0;
            for (int line = 0; line < count; line++) {
                if (debtor[line] == person) {
                    bits |= 1 << creditor[line];
                }
            }
            return bits;
        }
    }

    /** Works out what smoothing would write; made once, so that asking for it makes no objects. */
    private static final class Smoothing {
        private final int[] balance = new int[PERSONS];
        private final LineList newLines = new LineList();

        /** Makes newLines what would take the place of these; answers false if that is refused. */
        private boolean plan(LineList lines, boolean[] there) {
            newLines.count = 0;
            for (int person = 0; person < PERSONS; person++) {
                balance[person] = lines.balanceOf(person);
            }
            // each new line leaves one more person with 0, and the last one two
            for (int step = 0; step < PERSONS; step++) {
                int debtor = poorest();
                if (balance[debtor] >= 0) {
                    return true;
                }
                if (!planLine(debtor, wealthiest(), there)) {
                    return false;
                }
            }
            return true;
        }

        private boolean planLine(int debtor, int creditor, boolean[] there) {
            int witness = witnessFor(debtor, creditor, there);
            if (witness == NONE) {
                return false;
            }
            int amount = Math.min(-balance[debtor], balance[creditor]);
            balance[debtor] += amount;
            balance[creditor] -= amount;
            newLines.append(debtor, creditor, amount, witness);
            return true;
        }

        private int poorest() {
            int found = 0;
            for (int person = 1; person < PERSONS; person++) {
                if (balance[person] < balance[found]) {
                    found = person;
                }
            }
            return found;
        }

        private int wealthiest() {
            int found = 0;
            for (int person = 1; person < PERSONS; person++) {
                if (balance[person] > balance[found]) {
                    found = person;
                }
            }
            return found;
        }

        private static int witnessFor(int debtor, int creditor, boolean[] there) {
            for (int person = 0; person < there.length; person++) {
                if (there[person] && person != debtor && person != creditor) {
                    return person;
                }
            }
            return NONE;
        }
    }
}
