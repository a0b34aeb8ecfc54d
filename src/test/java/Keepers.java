/** Keepers with some calls behind them, for tests to begin with. */
final class Keepers {
    private Keepers() {
    }

    /** Formats of the risks 0, 10, 20 and so on. */
    static Fixityhall withFormats(int number) {
        Fixityhall x = new Fixityhall();
        for (int i = 0; i < number; i++) {
            x.addFormat(10 * i);
        }
        return x;
    }

    static Fixityhall oneFormat() {
        return withFormats(1);
    }

    static Fixityhall allFormats() {
        return withFormats(8);
    }

    /** Objects of one format, with the contents 0, 1, 2 and so on, and one copy of each. */
    static Fixityhall withObjects(int number) {
        Fixityhall x = withFormats(2);
        for (int i = 0; i < number; i++) {
            x.deposit(0, i, 1);
        }
        return x;
    }

    static Fixityhall allObjects() {
        return withObjects(10);
    }

    /** One object with versions of the contents 100, 200, 300 and so on, each stored whole. */
    static Fixityhall withVersions(int number) {
        Fixityhall x = withFormats(2);
        x.addConversion(0, 1, 5);
        x.deposit(0, 100, 1);
        for (int i = 1; i < number; i++) {
            x.revise(0, 100 + 100 * i, false);
        }
        return x;
    }

    static Fixityhall allVersions() {
        return withVersions(10);
    }

    /** Ten objects of ten versions, with the units 0 to 99 and three copies of each; 111 calls. */
    static Fixityhall allUnits() {
        Fixityhall x = withFormats(1);
        for (int object = 0; object < 10; object++) {
            x.deposit(0, 10 * object, 3);
            for (int version = 1; version < 10; version++) {
                x.revise(object, 10 * object + version, false);
            }
        }
        return x;
    }

    /** One object, its content 500, with copies at the sites 0 up to that number. */
    static Fixityhall withCopies(int number) {
        Fixityhall x = withFormats(1);
        x.deposit(0, 500, number);
        return x;
    }

    /**
     * Something of everything: object 0 has the versions 0 and 2 of 0 to 2, and needs the units 0, 2 and 3;
     * object 1 shares unit 0, object 2 has unit 1. Site 3 is closed, a copy of unit 0 is damaged, and the
     * audits stand in the middle.
     */
    static Fixityhall busy() {
        Fixityhall x = withFormats(3);
        x.addConversion(0, 1, 30);
        x.addConversion(1, 2, 5);
        x.deposit(0, 500, 2);
        x.deposit(1, 500, 3);
        x.deposit(1, 600, 1);
        x.revise(0, 520, true);
        x.revise(0, 505, true);
        x.purge(0, 1);
        x.toggleSite(3);
        x.audit(4);
        x.damage(0, 0, 97);
        return x;
    }
}
