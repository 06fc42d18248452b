/** All that can be found out about a bank, the numbers that no call tells too; finding out uses it up. */
final class State {
    private State() {
    }

    static String of(TallyWax bank) {
        StringBuilder text = new StringBuilder();
        addWhatIsTold(text, bank);
        addWitnesses(text, bank);
        addHeats(text, bank);
        addHardnesses(text, bank);
        return text.toString();
    }

    private static void addWhatIsTold(StringBuilder text, TallyWax bank) {
        text.append("year ").append(bank.year()).append(", lines ").append(bank.lines());
        text.append(", melted ").append(bank.melted()).append(", denied ").append(bank.denied());
        text.append(", total ").append(bank.total()).append(", there ");
        for (int person = 0; person < 8; person++) {
            text.append(bank.isThere(person) ? person : '-');
        }
        int tablets = bank.tablets();
        for (int tablet = 0; tablet < tablets; tablet++) {
            text.append(bank.isInCellar(tablet) ? ", in the cellar [" : ", [");
            text.append(Banks.linesOn(bank, tablet)).append(']');
        }
        text.append(", digest ").append(bank.digest());
    }

    /** The digest tells which lines each one witnesses: it is not the same with that one turned. */
    private static void addWitnesses(StringBuilder text, TallyWax bank) {
        text.append(", witnesses");
        for (int person = 0; person < 8; person++) {
            bank.turn(person);
            text.append(' ').append(bank.digest());
            bank.turn(person);
        }
    }

    private static void addHeats(StringBuilder text, TallyWax bank) {
        text.append(", heats");
        for (int number = 0; number < 10; number++) {
            text.append(' ').append(bank.setHeat(number, 0));
        }
    }

    private static void addHardnesses(StringBuilder text, TallyWax bank) {
        text.append(", hardnesses");
        int tablets = bank.tablets();
        for (int tablet = 0; tablet < tablets; tablet++) {
            if (bank.isInCellar(tablet)) {
                bank.carry(tablet);
            }
        }
        for (int heat = 1; heat <= 9; heat++) {
            bank.setHeat(0, heat);
            text.append(' ').append(bank.digest());
        }
    }
}
