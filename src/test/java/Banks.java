/** Banks that the tests begin with, and what they read off a bank. */
final class Banks {
    private Banks() {
    }

    static TallyWax with(int... hardnesses) {
        TallyWax bank = new TallyWax();
        for (int hardness : hardnesses) {
            bank.addTablet(hardness);
        }
        return bank;
    }

    /** So many tablets; on each one 0 owes 1 ten, and the witness of it, 7, is gone. */
    static TallyWax withTablets(int count) {
        TallyWax bank = new TallyWax();
        for (int tablet = 0; tablet < count; tablet++) {
            bank.addTablet(5);
            bank.write(tablet, 0, 1, 10, 7);
        }
        bank.turn(7);
        return bank;
    }

    /** One tablet with so many lines, whose amounts are 10, 11 and so on; their witness, 7, is gone. */
    static TallyWax withLines(int count) {
        TallyWax bank = with(5);
        for (int line = 0; line < count; line++) {
            bank.write(0, line % 3, 3 + line % 3, 10 + line, 7);
        }
        bank.turn(7);
        return bank;
    }

    /** One tablet that had 12 lines, of which the last has been paid. */
    static TallyWax withElevenLeft() {
        TallyWax bank = withLines(12);
        bank.pay(0, 11, 21);
        return bank;
    }

    /** One tablet that had 12 lines, all of which have melted. */
    static TallyWax withNoneLeft() {
        TallyWax bank = withLines(12);
        bank.setHeat(0, 6);
        bank.pass(1);
        return bank;
    }

    /** A bank of which nothing is as it is at first: tablet 2 is full, tablet 4 is empty, 5 and 6 are gone. */
    static TallyWax busy() {
        TallyWax bank = with(3, 1, 9, 5, 2);
        bank.write(1, 0, 1, 77, 2);
        bank.setHeat(0, 2);
        bank.pass(23);
        bank.setHeat(4, 9);
        bank.setHeat(9, 3);
        bank.write(0, 0, 1, 10, 2);
        bank.write(0, 1, 2, 300, 6);
        bank.write(0, 2, 0, 4, 5);
        bank.write(0, 3, 0, 41, 6);
        for (int line = 0; line < 12; line++) {
            bank.write(2, line % 4, 4 + line % 2, 900 + line, 6 + line % 2);
        }
        bank.write(3, 5, 6, 999, 0);
        bank.write(3, 7, 6, 1, 3);
        bank.carry(3);
        turnAll(bank, 5, 6);
        bank.deny(0, 3);
        return bank;
    }

    static void turnAll(TallyWax bank, int... persons) {
        for (int person : persons) {
            bank.turn(person);
        }
    }

    /** The debtor, creditor and amount of each line, as in "0>1:10 2>3:4". */
    static String linesOn(TallyWax bank, int tablet) {
        StringBuilder text = new StringBuilder();
        for (int line = 0; line < bank.linesOf(tablet); line++) {
            text.append(line == 0 ? "" : " ").append(bank.debtorOf(tablet, line));
            text.append('>').append(bank.creditorOf(tablet, line));
            text.append(':').append(bank.amountOf(tablet, line));
        }
        return text.toString();
    }

    /** The person whose going leaves the line without a witness; -1 if there is none. */
    static int witnessOf(TallyWax bank, int tablet, int line) {
        int found = -1;
        for (int person = 0; person < 8; person++) {
            if (bank.isThere(person) && bank.isWitnessed(tablet, line)) {
                bank.turn(person);
                if (!bank.isWitnessed(tablet, line)) {
                    found = person;
                }
                bank.turn(person);
            }
        }
        return found;
    }
}
