/** Promise 5, case by case: strong or not, and of whom nothing is told. */
public final class Promise05Test {
    public static void main(String[] args) {
        Cases.run(Promise05Test.class);
    }

    static void p05_unknown(Checks checks) {
        SnowNode node = Nodes.quick(1, 1);
        for (int id : new int[] {1, 77, -1, Nodes.MIN, Nodes.MAX}) {
            checks.same("query(" + id + ")", Nodes.NONE, node.query(id));
        }
    }

    static void p05_genesis(Checks checks) {
        checks.same("query(0)", 1, Nodes.quick(1, 1).query(0));
    }

    static void p05_waiting(Checks checks) {
        SnowNode node = Nodes.quick(1, 1);
        Row waiting = Nodes.beside(0, 77);
        waiting.take(node);
        checks.same("query", Nodes.NONE, node.query(waiting.id()));
        checks.same("query of its unknown parent", Nodes.NONE, node.query(77));
    }

    static void p05_bad(Checks checks) {
        SnowNode node = Nodes.quick(1, 1);
        Row bad = Nodes.spend(0, 1);
        Row child = Nodes.beside(1, bad.id());
        Nodes.takeAll(node, bad, child);
        checks.same("query", Nodes.NONE, node.query(bad.id()));
        checks.same("query of its child", Nodes.NONE, node.query(child.id()));
    }

    static void p05_acceptedAndRejected(Checks checks) {
        SnowNode node = Nodes.quick(1, 1);
        Row accepted = Nodes.spend(0, 1000000);
        Row rejected = Nodes.spend(0, 999999, 1);
        Nodes.win(node, accepted);
        rejected.take(node);
        checks.same("query of an accepted one", 1, node.query(accepted.id()));
        checks.same("query of a rejected one", 0, node.query(rejected.id()));
    }

    /** One that waited is told of from when it is held. */
    static void p05_waitingThenHeld(Checks checks) {
        SnowNode node = Nodes.quick(1, 1);
        Row parent = Nodes.spend(0, 1000000);
        Row child = Nodes.beside(1, parent.id());
        child.take(node);
        checks.same("query before", Nodes.NONE, node.query(child.id()));
        parent.take(node);
        checks.same("query behind", 1, node.query(child.id()));
    }

    static void p05_favouriteOfOneSetOnly(Checks checks) {
        SnowNode node = Nodes.quick(1, 1);
        Row first = Nodes.spend(0, 1000000);
        Row both = Row.under(0).spends(0, 1, 0, 0).pays(2000000);
        Row other = Row.under(0).spends(0, 0, 0, 2).pays(2000000);
        Nodes.takeAll(node, first, both, other);
        checks.same("query of the favourite", 1, node.query(first.id()));
        checks.same("query of the first set's favourite", 0, node.query(both.id()));
        checks.same("query of the last set's favourite", 0, node.query(other.id()));
    }

    static void p05_likedUnderOneThatIsNot(Checks checks) {
        SnowNode node = Nodes.quick(1, 1);
        Row first = Nodes.spend(0, 1000000);
        Row second = Nodes.spend(0, 999999, 1);
        Row child = Nodes.beside(1, first.id(), second.id());
        Row grandchild = Nodes.beside(2, child.id());
        Row strong = Nodes.beside(3, first.id());
        Nodes.takeAll(node, first, second, child, grandchild, strong);
        checks.same("the child is liked", 1, node.look(child.id(), 3));
        checks.same("query of the child", 0, node.query(child.id()));
        checks.same("the grandchild is liked", 1, node.look(grandchild.id(), 3));
        checks.same("query of the grandchild", 0, node.query(grandchild.id()));
        checks.same("query of one under the favourite", 1, node.query(strong.id()));
    }

    /** When the favourite changes, so does all that is strong by it. */
    static void p05_favouriteChanges(Checks checks) {
        SnowNode node = Nodes.quick(9, 9);
        Row first = Nodes.spend(0, 1000000);
        Row second = Nodes.spend(0, 999999, 1);
        Row underFirst = Nodes.beside(1, first.id());
        Row underSecond = Nodes.beside(2, second.id());
        Nodes.takeAll(node, first, second, underFirst, underSecond);
        int[] before = {1, 0, 1, 0};
        int[] behind = {0, 1, 0, 1};
        Row[] rows = {first, second, underFirst, underSecond};
        for (int i = 0; i < 4; i++) {
            checks.same("query no. " + i, before[i], node.query(rows[i].id()));
            node.poll();
        }
        Nodes.say(node, 1, true);
        for (int i = 0; i < 4; i++) {
            checks.same("query no. " + i + " behind a poll", behind[i], node.query(rows[i].id()));
        }
    }
}
