/** What a keeper shows, and what it answers to a row of calls that change it: as one text. */
final class Story {
    private static final int MOST_FORMATS = 8;
    private static final int MOST_OBJECTS = 10;
    private static final int SITES = 4;

    private final Fixityhall x;
    private final StringBuilder text = new StringBuilder();
    private int formats = 0;
    private int objects = 0;
    private int units = 0;

    private Story(Fixityhall x) {
        this.x = x;
    }

    /** Makes some 300 calls on a keeper of a few units, and so uses it up. */
    static String of(Fixityhall x) {
        Story story = new Story(x);
        story.lookAtFormats();
        story.lookAtObjects();
        story.lookAtUnits();
        story.goOn();
        story.lookAtUnits();
        return story.text.toString();
    }

    private void tell(String name, Check.Call call) {
        text.append(name).append(' ').append(Check.outcome(call)).append('\n');
    }

    private void lookAtFormats() {
        while (formats < MOST_FORMATS && isAnswered(formats)) {
            formats++;
        }
        for (int i = 0; i < formats; i++) {
            for (int j = 0; j < formats; j++) {
                int from = i;
                int to = j;
                tell("bestWay", () -> x.bestWay(from, to));
            }
        }
    }

    private boolean isAnswered(int format) {
        return Check.outcome(() -> x.bestWay(format, format)) instanceof Long;
    }

    private void lookAtObjects() {
        while (objects < MOST_OBJECTS && Check.outcome(() -> x.versions(objects)) instanceof Long) {
            lookAtVersions(objects, x.versions(objects));
            objects++;
        }
        for (int risk : new int[] {0, 1, 50, 99, 100}) {
            tell("atRisk", () -> x.atRisk(risk));
        }
    }

    private void lookAtVersions(int object, int set) {
        text.append("object ").append(object).append(" has ").append(set).append('\n');
        for (int i = 0; set >> i != 0; i++) {
            if ((set >> i & 1) != 0) {
                int version = i;
                int unit = x.unitOf(object, version);
                units = Math.max(units, unit + 1);
                text.append("unit ").append(unit).append('\n');
                tell("read", () -> x.read(object, version));
            }
        }
    }

    private void lookAtUnits() {
        tell("units", x::units);
        tell("lacking", x::lacking);
        for (int i = 0; i <= units; i++) {
            int unit = i;
            tell("sites", () -> x.sites(unit));
            tell("sound", () -> x.sound(unit));
        }
    }

    private void goOn() {
        for (int i = 0; i < 2 * SITES; i++) {
            int site = i % SITES;
            tell("damage", () -> x.damage(site, 0, 1) ? 1 : 0);
            tell("audit", () -> x.audit(1));
        }
        for (int site = 0; site < SITES; site++) {
            int toggled = site;
            tell("toggleSite", () -> x.toggleSite(toggled));
        }
        tell("replicate", x::replicate);
        for (int format = 0; format < formats; format++) {
            int calmed = format;
            tell("setRisk", () -> x.setRisk(calmed, 3));
        }
        tell("addConversion", () -> x.addConversion(0, 1, 100));
        tell("deposit", () -> x.deposit(0, 500, 1));
        tell("deposit", () -> x.deposit(0, 4711, 3));
        tell("addFormat", () -> x.addFormat(0));
        for (int object = 0; object < objects; object++) {
            int revised = object;
            tell("revise", () -> x.revise(revised, 4712, revised % 2 == 0));
            tell("versions", () -> x.versions(revised));
        }
        units = Math.max(units, 2 * MOST_OBJECTS);
    }
}
