/** Long runs of mixed calls, right and wrong ones, on the class and on the model; both answer the same. */
public final class ModelTest {
    private static final int RUNS = 4000;
    // The document leaves free what later calls answer.
    private static final int CALLS = 512;
    private static final int[] CONTENTS = {0, 1, 2, 5, 98, 97, 194, 1000, 1001, 500000, 999998, 999999};
    private static final int[] WRONG = {-1, Integer.MIN_VALUE, Integer.MAX_VALUE, 101, 1000000, -1001, 1001, 10, 8, 4};

    private final Fixityhall hall = new Fixityhall();
    private final Model model = new Model();
    private final int run;
    private long seed;

    private ModelTest(int run) {
        this.run = run;
        this.seed = 7919L * run + 1;
    }

    public static void main(String[] args) {
        for (int run = 0; run < RUNS; run++) {
            new ModelTest(run).play();
        }
        Check.end();
    }

    private void play() {
        for (int call = 0; call < CALLS; call++) {
            if (below(5) < 2) {
                look(below(10));
            } else {
                change();
            }
        }
    }

    private int below(int bound) {
        seed = seed * 6364136223846793005L + 1442695040888963407L;
        return (int) Long.remainderUnsigned(seed >>> 33, bound);
    }

    /** A number from 0 to most, now and then a wrong one. */
    private int upTo(int most) {
        return below(25) == 0 ? WRONG[below(WRONG.length)] : below(most + 1);
    }

    private int anyContent() {
        int kind = below(30);
        return kind == 0 ? WRONG[below(WRONG.length)] : kind < 4 ? below(1000000) : CONTENTS[below(CONTENTS.length)];
    }

    private int anyChange() {
        int kind = below(20);
        return kind == 0 ? WRONG[below(WRONG.length)] : kind < 12 ? 97 * (below(5) - 2) : below(2001) - 1000;
    }

    private void same(String what, Check.Call due, Check.Call got) {
        Object wanted = Check.outcome(due);
        Check.same("run " + run + ", " + what, wanted, Check.outcome(got));
    }

    private void change() {
        int kind = below(100);
        if (kind < 16) {
            callFormats(below(4));
        } else if (kind < 50) {
            callVersions(below(8));
        } else if (kind < 92) {
            callCopies(below(14));
        } else {
            // The first objects often get all their versions, so that the limits are met.
            int content = anyContent();
            boolean isDifference = below(3) > 0;
            same("revise", () -> model.revise(0, content, isDifference), () -> hall.revise(0, content, isDifference));
        }
    }

    private void callFormats(int kind) {
        int a = upTo(7);
        int b = upTo(7);
        int hundred = upTo(run % 2 == 0 ? 100 : 3);
        switch (kind) {
            case 0 -> same("addFormat " + hundred, () -> model.addFormat(hundred), () -> hall.addFormat(hundred));
            case 1 -> same("setRisk", () -> model.setRisk(a, hundred), () -> hall.setRisk(a, hundred));
            default -> same("addConversion " + a + " " + b + " " + hundred,
                () -> model.addConversion(a, b, hundred), () -> hall.addConversion(a, b, hundred));
        }
    }

    private void callVersions(int kind) {
        int object = upTo(9);
        int format = upTo(3);
        int version = upTo(9);
        int content = anyContent();
        int copies = upTo(3);
        boolean isDifference = below(3) > 0;
        switch (kind) {
            case 0, 1 -> same("deposit", () -> model.deposit(format, content, copies),
                () -> hall.deposit(format, content, copies));
            case 2, 3 -> same("revise", () -> model.revise(object, content, isDifference),
                () -> hall.revise(object, content, isDifference));
            case 4, 5 -> same("convert", () -> model.convert(object, format), () -> hall.convert(object, format));
            default -> same("purge", () -> model.purge(object, version), () -> hall.purge(object, version));
        }
    }

    private void callCopies(int kind) {
        int site = upTo(3);
        int unit = upTo(60) % 61;
        int change = anyChange();
        int steps = below(3) == 0 ? upTo(100) : 1 + below(4);
        switch (kind) {
            case 0, 1 -> same("toggleSite", () -> model.toggleSite(site), () -> hall.toggleSite(site));
            case 2, 3 -> same("replicate", model::replicate, hall::replicate);
            case 4, 5, 6 -> same("audit " + steps, () -> model.audit(steps), () -> hall.audit(steps));
            default -> same("damage", () -> model.damage(site, unit, change) ? 1 : 0,
                () -> hall.damage(site, unit, change) ? 1 : 0);
        }
    }

    private void look(int kind) {
        int object = upTo(9);
        int version = upTo(9);
        int unit = upTo(60);
        int from = upTo(7);
        int to = upTo(7);
        int risk = upTo(run % 2 == 0 ? 100 : 3);
        switch (kind) {
            case 0 -> same("units", model::units, hall::units);
            case 1 -> same("lacking", model::lacking, hall::lacking);
            case 2 -> same("bestWay " + from + " " + to, () -> model.bestWay(from, to), () -> hall.bestWay(from, to));
            case 3 -> same("versions " + object, () -> model.versions(object), () -> hall.versions(object));
            case 4 -> same("unitOf " + object + " " + version,
                () -> model.unitOf(object, version), () -> hall.unitOf(object, version));
            case 5 -> same("atRisk " + risk, () -> model.atRisk(risk), () -> hall.atRisk(risk));
            case 6 -> same("sites " + unit, () -> model.sites(unit), () -> hall.sites(unit));
            case 7 -> same("sound " + unit, () -> model.sound(unit), () -> hall.sound(unit));
            default -> same("read " + object + " " + version,
                () -> model.read(object, version), () -> hall.read(object, version));
        }
    }
}
