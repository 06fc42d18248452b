import java.util.Random;
import java.util.concurrent.Callable;

/** Long runs of calls, always the same ones, on the program and on the model: all answers agree. */
public final class ModelTest {
    private static final int RUNS = 240;
    private static final int CALLS = 250;

    private static final Checks CHECKS = new Checks();

    private final Random random;
    private final TallyWax bank = new TallyWax();
    private final Model model = new Model();
    private final int wrongInHundred;

    private ModelTest(int run) {
        random = new Random(run);
        wrongInHundred = run % 3 == 0 ? 15 : 2;
    }

    public static void main(String[] args) {
        for (int run = 0; run < RUNS; run++) {
            new ModelTest(run).play(run);
        }
        CHECKS.close("ModelTest");
    }

    private void play(int run) {
        int firstTablets = random.nextInt(9);
        for (int i = 0; i < firstTablets; i++) {
            int hardness = 1 + random.nextInt(9);
            compare("run " + run + ": addTablet", () -> bank.addTablet(hardness), () -> model.addTablet(hardness));
        }
        // a digest follows each call: 8 tablets and twice 250 calls stay below the 512 of an object
        for (int call = 0; call < CALLS; call++) {
            String name = "run " + run + ", call " + call + ": ";
            if (random.nextInt(100) < 60) {
                change(name);
            } else {
                ask(name);
            }
            compare(name + "digest", bank::digest, model::digest);
        }
    }

    private void compare(String name, Callable<Object> tested, Callable<Object> due) {
        CHECKS.equal(name, answer(due), answer(tested));
    }

    private static String answer(Callable<Object> call) {
        try {
            return String.valueOf(call.call());
        } catch (Exception e) {
            return "throws." + e.getClass().getSimpleName();
        }
    }

    /** A number from least to most, but now and then one that lies outside. */
    private int number(int least, int most) {
        if (random.nextInt(100) < wrongInHundred) {
            int[] outside = {least - 1, most + 1, most + 2, Integer.MIN_VALUE, Integer.MAX_VALUE, -random.nextInt(99)};
            return outside[random.nextInt(outside.length)];
        }
        return least + random.nextInt(Math.max(1, most - least + 1));
    }

    private int anyTablet() {
        return number(0, model.tablets() - 1);
    }

    private int anyPerson() {
        return number(0, 7);
    }

    private int anyLine(int tablet) {
        boolean known = tablet >= 0 && tablet < model.tablets();
        return number(0, known ? model.linesOf(tablet) - 1 : 11);
    }

    private void change(String name) {
        int kind = random.nextInt(100);
        if (kind < 50) {
            write(name);
        } else if (kind < 58) {
            pay(name);
        } else if (kind < 68) {
            deny(name);
        } else if (kind < 74) {
            int tablet = anyTablet();
            compare(name + "smooth(" + tablet + ")", () -> bank.smooth(tablet), () -> model.smooth(tablet));
        } else if (kind < 84) {
            int person = anyPerson();
            compare(name + "turn(" + person + ")", () -> bank.turn(person), () -> model.turn(person));
        } else if (kind < 89) {
            int tablet = anyTablet();
            compare(name + "carry(" + tablet + ")", () -> bank.carry(tablet), () -> model.carry(tablet));
        } else if (kind < 94) {
            setHeat(name);
        } else if (kind < 97) {
            int years = random.nextInt(4) == 0 ? number(1, 40) : number(1, 3);
            compare(name + "pass(" + years + ")", () -> bank.pass(years), () -> model.pass(years));
        } else {
            int hardness = number(1, 9);
            compare(name + "addTablet", () -> bank.addTablet(hardness), () -> model.addTablet(hardness));
        }
    }

    private void write(String name) {
        int tablet = anyTablet();
        int debtor = anyPerson();
        int creditor = anyPerson();
        int witness = anyPerson();
        // small amounts make the ties that smoothing has to settle
        int amount = random.nextBoolean() ? number(1, 3) : number(1, 999);
        compare(name + "write", () -> bank.write(tablet, debtor, creditor, amount, witness),
                () -> model.write(tablet, debtor, creditor, amount, witness));
    }

    private void pay(String name) {
        int tablet = anyTablet();
        int line = anyLine(tablet);
        String owed = answer(() -> model.amountOf(tablet, line));
        int most = owed.startsWith("throws") ? 5 : Integer.parseInt(owed);
        int amount = random.nextBoolean() ? most : number(1, most);
        compare(name + "pay", () -> bank.pay(tablet, line, amount), () -> model.pay(tablet, line, amount));
    }

    private void deny(String name) {
        int tablet = anyTablet();
        int line = anyLine(tablet);
        compare(name + "deny", () -> bank.deny(tablet, line), () -> model.deny(tablet, line));
    }

    private void setHeat(String name) {
        int number = number(0, 9);
        int heat = random.nextBoolean() ? number(0, 3) : number(0, 9);
        compare(name + "setHeat", () -> bank.setHeat(number, heat), () -> model.setHeat(number, heat));
    }

    private void ask(String name) {
        int kind = random.nextInt(3);
        if (kind == 0) {
            askOfAll(name);
        } else if (kind == 1) {
            askOfTablet(name);
        } else {
            askOfPerson(name);
        }
    }

    private void askOfAll(String name) {
        int years = number(1, 40);
        switch (random.nextInt(11)) {
            case 0 -> compare(name + "year", bank::year, model::year);
            case 1 -> compare(name + "tablets", bank::tablets, model::tablets);
            case 2 -> compare(name + "lines", bank::lines, model::lines);
            case 3 -> compare(name + "melted", bank::melted, model::melted);
            case 4 -> compare(name + "denied", bank::denied, model::denied);
            case 5 -> compare(name + "total", bank::total, model::total);
            case 6 -> compare(name + "richest", bank::richest, model::richest);
            case 7 -> compare(name + "isRound", bank::isRound, model::isRound);
            case 8 -> compare(name + "bestToSmooth", bank::bestToSmooth, model::bestToSmooth);
            case 9 -> compare(name + "meanAmount", bank::meanAmount, model::meanAmount);
            default -> compare(name + "meltsIn", () -> bank.meltsIn(years), () -> model.meltsIn(years));
        }
    }

    private void askOfTablet(String name) {
        int tablet = anyTablet();
        int line = anyLine(tablet);
        switch (random.nextInt(8)) {
            case 0 -> compare(name + "linesOf", () -> bank.linesOf(tablet), () -> model.linesOf(tablet));
            case 1 -> compare(name + "isInCellar", () -> bank.isInCellar(tablet), () -> model.isInCellar(tablet));
            case 2 -> compare(name + "debtorOf", () -> bank.debtorOf(tablet, line), () -> model.debtorOf(tablet, line));
            case 3 -> compare(name + "creditorOf",
                    () -> bank.creditorOf(tablet, line), () -> model.creditorOf(tablet, line));
            case 4 -> compare(name + "amountOf", () -> bank.amountOf(tablet, line), () -> model.amountOf(tablet, line));
            case 5 -> compare(name + "isWitnessed",
                    () -> bank.isWitnessed(tablet, line), () -> model.isWitnessed(tablet, line));
            case 6 -> compare(name + "linesSmoothed",
                    () -> bank.linesSmoothed(tablet), () -> model.linesSmoothed(tablet));
            default -> compare(name + "yearsUntilMelted",
                    () -> bank.yearsUntilMelted(tablet), () -> model.yearsUntilMelted(tablet));
        }
    }

    private void askOfPerson(String name) {
        int tablet = anyTablet();
        int person = anyPerson();
        int other = anyPerson();
        switch (random.nextInt(6)) {
            case 0 -> compare(name + "isThere", () -> bank.isThere(person), () -> model.isThere(person));
            case 1 -> compare(name + "has", () -> bank.has(person), () -> model.has(person));
            case 2 -> compare(name + "hasOn", () -> bank.hasOn(tablet, person), () -> model.hasOn(tablet, person));
            case 3 -> compare(name + "owes", () -> bank.owes(person, other), () -> model.owes(person, other));
            case 4 -> compare(name + "owesAlong", () -> bank.owesAlong(person), () -> model.owesAlong(person));
            default -> compare(name + "atRisk", () -> bank.atRisk(person), () -> model.atRisk(person));
        }
    }
}
