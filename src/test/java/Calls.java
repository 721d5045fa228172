/** Calls by name, so that a test can tell them in rows. */
final class Calls {
    private Calls() {
    }

    static int call(RunningThree x, String name, long... v) {
        int[] a = new int[v.length];
        for (int k = 0; k < v.length; k++) {
            a[k] = (int) v[k];
        }
        switch (name) {
            case "fighter": return x.fighter(a[0], a[1], a[2]);
            case "of": return x.of(a[0], a[1]);
            case "hurt": return x.hurt(a[0], a[1]);
            case "start": return x.start(a[0]);
            case "sort": return x.sort(a[0]);
            case "cost": return x.cost(a[0]);
            case "points": return x.points(a[0], a[1]);
            case "type": return x.type(a[0]);
            case "field": return x.field();
            case "count": return x.count(a[0]);
            case "moment": return x.moment();
            case "turn": return x.turn();
            case "undo": return x.undo();
            case "seed": return x.seed(a[0]);
            case "item": return x.item(a[0], a[1], a[2], v[3]);
            default: return laterCall(x, name, a);
        }
    }

    private static int laterCall(RunningThree x, String name, int[] a) {
        switch (name) {
            case "chance": return x.chance(a[0]);
            case "best": return x.best(a[0]);
            case "late": return x.late(a[0]);
            case "together": return x.together(a[0], a[1]);
            case "ditched": return x.ditched();
            case "ahead": return x.ahead(a[0]);
            case "fields": return x.fields(a[0], a[1]);
            case "image": return x.image();
            case "restore": return x.restore();
            case "strides": return x.strides(a[0], a[1], a[2], a[3], a[4]);
            case "far": return x.far(a[0], a[1], a[2], a[3]);
            case "film": return x.film(a[0], a[1], a[2], a[3]);
            case "sheet": return x.sheet(a[0], a[1], a[2]);
            case "drop": return x.drop(a[0]);
            case "copy": return x.copy(a[0], a[1], a[2], a[3], a[4]);
            default: throw new IllegalArgumentException("no call " + name);
        }
    }

    static String told(String name, long... v) {
        StringBuilder text = new StringBuilder(name).append('(');
        for (int k = 0; k < v.length; k++) {
            text.append(k == 0 ? "" : ", ").append(v[k]);
        }
        return text.append(')').toString();
    }
}
