import java.util.Set;

/** The face's calls by their names, so that tests can go through tables of them. */
final class Calls {
    private static final Set<String> NAMING_FAULTS = Set.of(
        "town", "passages", "sizes", "persons", "kinds", "limits", "sheet", "put", "cell", "copy", "as");

    private Calls() {
    }

    static boolean namesFaults(String name) {
        return NAMING_FAULTS.contains(name);
    }

    static boolean answersLong(String name) {
        return name.equals("cell") || name.equals("odds");
    }

    static long on(GossipGate x, String name, int... a) {
        switch (name) {
            case "town": return x.town(a[0], a[1], a[2], a[3]);
            case "ofGate": return x.ofGate(a[0], a[1]);
            case "ofStory": return x.ofStory(a[0], a[1]);
            case "harmless": return x.harmless(a[0]);
            case "rate": return x.rate(a[0], a[1]);
            case "fresh": return x.fresh(a[0], a[1]);
            case "duty": return x.duty(a[0], a[1], a[2], a[3]);
            case "passages": return x.passages(a[0], a[1], a[2], a[3], a[4]);
            case "least": return x.least(a[0], a[1], a[2]);
            case "free": return x.free(a[0]);
            case "worth": return x.worth(a[0], a[1], a[2]);
            case "reading": return x.reading(a[0], a[1]);
            case "back": return x.back(a[0]);
            case "sizes": return x.sizes(a[0], a[1], a[2], a[3], a[4]);
            case "persons": return x.persons(a[0], a[1], a[2], a[3], a[4]);
            case "kinds": return x.kinds(a[0], a[1], a[2], a[3], a[4]);
            case "limits": return x.limits(a[0], a[1], a[2], a[3]);
            case "odds": return x.odds(a[0], a[1], a[2], a[3]);
            case "sheet": return x.sheet(a[0], a[1], a[2]);
            case "lose": return x.lose(a[0]);
            case "put": return x.put(a[0], a[1], a[2]);
            case "cell": return x.cell(a[0], a[1], a[2]);
            case "copy": return x.copy(a[0], a[1], a[2], a[3], a[4]);
            case "tell": return x.tell(a[0]);
            case "knock": return x.knock(a[0]);
            case "as": return x.as(a[0], a[1]);
            case "trace": return x.trace();
            case "fault": return x.fault();
            case "many": return x.many(a[0]);
            default: throw new IllegalArgumentException(name);
        }
    }
}
