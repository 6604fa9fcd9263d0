/** Promise 14, case by case: whose outputs are unspent, and which of them. */
public final class Promise14Test {
    public static void main(String[] args) {
        Cases.run(Promise14Test.class);
    }

    private static void unspent(Checks checks, SnowNode node, int want, int id, int index) {
        checks.same("unspent(" + id + ", " + index + ")", want, node.unspent(id, index));
    }

    static void p14_indexBelow0(Checks checks) {
        SnowNode node = Nodes.quick(1, 1);
        for (int index : new int[] {-1, -8, Nodes.MIN}) {
            unspent(checks, node, 0, 0, index);
        }
    }

    static void p14_firstAndLastOutputOfTheGenesis(Checks checks) {
        SnowNode node = Nodes.quick(1, 1);
        unspent(checks, node, 1000000, 0, 0);
        unspent(checks, node, 1000000, 0, 7);
    }

    static void p14_indexBehindTheGenesisOutputs(Checks checks) {
        SnowNode node = Nodes.quick(1, 1);
        for (int index : new int[] {8, 9, 255, Nodes.MAX}) {
            unspent(checks, node, 0, 0, index);
        }
    }

    static void p14_firstAndLastOutputOfOthers(Checks checks) {
        SnowNode node = Nodes.quick(1, 1);
        Row row = Nodes.spend(0, 1, 2, 3, 999994);
        Nodes.win(node, row);
        int[] want = {0, 1, 2, 3, 999994, 0};
        for (int i = 0; i < want.length; i++) {
            unspent(checks, node, want[i], row.id(), i - 1);
        }
        unspent(checks, node, 0, row.id(), Nodes.MAX);
        unspent(checks, node, 0, row.id(), Nodes.MIN);
    }

    static void p14_highestAmountThereCanBe(Checks checks) {
        SnowNode node = Nodes.quick(1, 1);
        Row half = Row.under(0).spends(0, 0, 0, 1, 0, 2, 0, 3).pays(4000000);
        Row rest = Row.under(0).spends(0, 4, 0, 5, 0, 6, 0, 7).pays(4000000);
        Row all = Row.under(half.id(), rest.id()).spends(half.id(), 0, rest.id(), 0).pays(8000000);
        Nodes.win(node, half, rest, all);
        unspent(checks, node, 8000000, all.id(), 0);
        unspent(checks, node, 0, half.id(), 0);
        checks.same("count(10)", 8000000, node.count(10));
    }

    static void p14_unknown(Checks checks) {
        SnowNode node = Nodes.quick(1, 1);
        Nodes.beside(0, 77).take(node);
        for (int id : new int[] {77, 1, -1, Nodes.MIN, Nodes.MAX}) {
            unspent(checks, node, 0, id, 0);
        }
    }

    static void p14_waitingAndBad(Checks checks) {
        SnowNode node = Nodes.quick(1, 1);
        Row waiting = Nodes.beside(0, 77);
        Row bad = Nodes.spend(0, 5);
        Nodes.takeAll(node, waiting, bad);
        unspent(checks, node, 0, waiting.id(), 0);
        unspent(checks, node, 0, bad.id(), 0);
    }

    static void p14_heldThenAccepted(Checks checks) {
        SnowNode node = Nodes.quick(1, 1);
        Row row = Nodes.spend(0, 600000, 400000);
        row.take(node);
        unspent(checks, node, 0, row.id(), 0);
        unspent(checks, node, 1000000, 0, 0);
        Nodes.say(node, node.poll(), true);
        unspent(checks, node, 600000, row.id(), 0);
        unspent(checks, node, 400000, row.id(), 1);
        unspent(checks, node, 0, 0, 0);
    }

    static void p14_rejected(Checks checks) {
        SnowNode node = Nodes.quick(1, 1);
        Nodes.win(node, Nodes.spend(0, 1000000));
        Row loser = Row.under(0).spends(0, 0, 0, 1).pays(2000000);
        loser.take(node);
        Nodes.state(checks, node, "the loser", Nodes.REJECTED, loser);
        unspent(checks, node, 0, loser.id(), 0);
        unspent(checks, node, 1000000, 0, 1);
    }

    /** Spent by one that is held only, and by one that is rejected: it is unspent still. */
    static void p14_spentByOneThatIsNotAccepted(Checks checks) {
        SnowNode node = Nodes.quick(2, 2);
        Row parent = Nodes.spend(0, 1000000);
        Row child = Row.under(parent.id()).spends(parent.id(), 0).pays(1000000);
        Nodes.win(node, parent, child);
        Nodes.state(checks, node, "the parent", Nodes.ACCEPTED, parent);
        Nodes.state(checks, node, "the child", Nodes.HELD, child);
        unspent(checks, node, 1000000, parent.id(), 0);
        Nodes.win(node, Row.under(child.id()).spends(child.id(), 0).pays(1000000));
        Nodes.state(checks, node, "the child behind another poll", Nodes.ACCEPTED, child);
        unspent(checks, node, 0, parent.id(), 0);
        unspent(checks, node, 1000000, child.id(), 0);
    }

    static void p14_otherOutputsOfOneThatIsSpent(Checks checks) {
        SnowNode node = Nodes.quick(1, 1);
        Row row = Nodes.spend(3, 1000000);
        Nodes.win(node, row);
        for (int index = 0; index < 8; index++) {
            unspent(checks, node, index == 3 ? 0 : 1000000, 0, index);
        }
    }

    static void p14_spentTogetherWithOthers(Checks checks) {
        SnowNode node = Nodes.quick(1, 1);
        Nodes.win(node, Row.under(0).spends(0, 5, 0, 1, 0, 7, 0, 0).pays(4000000));
        int[] want = {0, 0, 1, 1, 1, 0, 1, 0};
        for (int index = 0; index < 8; index++) {
            unspent(checks, node, want[index] * 1000000, 0, index);
        }
    }
}
