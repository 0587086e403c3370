import java.util.Arrays;

/** An object and the model of it: each call is made to both, and the answers and digests are compared. */
final class Pair {
    final TruthOver x = new TruthOver();
    final Model model = new Model();
    private final String under;
    private final Due due;

    Pair(String under, Due due) {
        this.under = under;
        this.due = due;
    }

    void call(String name, int... a) {
        String told = under + ": " + name + Arrays.toString(a);
        due.due(told, answer(name, a), model.call(name, a));
        due.due(told + ", then digest", x.digest(), model.call("digest"));
    }

    private long answer(String name, int[] a) {
        switch (name) {
            case "valley": return x.valley(a[0]);
            case "wind": return x.wind(a[0], a[1]);
            case "player": return x.player(a[0], a[1], a[2]);
            case "type": return x.type(a[0]);
            case "clear": return x.clear();
            case "read": return x.read();
            case "hits": return x.hits(a[0]);
            case "picks": return x.picks(a[0]);
            case "cock": return x.cock(a[0], a[1]);
            case "hours": return x.hours(a[0]);
            case "undo": return x.undo();
            case "now": return x.now(a[0]);
            case "of": return x.of(a[0], a[1]);
            case "reach": return x.reach(a[0], a[1]);
            case "may": return x.may();
            case "rally": return x.rally(a[0], a[1]);
            case "lasts": return x.lasts();
            case "place": return x.place(a[0]);
            case "seen": return x.seen(a[0], a[1], a[2]);
            case "heavy": return x.heavy(a[0]);
            case "tell": return x.tell(a[0]);
            case "note": return x.note(a[0], a[1], a[2], a[3]);
            case "mark": return x.mark(a[0], a[1], a[2], a[3]);
            case "forget": return x.forget(a[0]);
            case "is": return x.is();
            case "look": return x.look();
            case "kinds": return x.kinds(a[0]);
            case "ask": return x.ask(a[0]);
            case "yours": return x.yours(a[0], a[1]);
            case "gusts": return x.gusts(a[0], a[1]);
            case "centuries": return x.centuries(a[0], a[1]);
            case "part": return x.part(a[0]);
            case "image": return x.image(a[0]);
            case "from": return x.from(a[0]);
            case "status": return x.status(a[0]);
            case "count": return x.count(a[0]);
            default: throw new IllegalArgumentException(name);
        }
    }
}
