/** Promise 11, case by case: which transactions, outputs and questions there are, and what is NONE. */
public final class Promise11Test {
    public static void main(String[] args) {
        Cases.run(Promise11Test.class);
    }

    private static void refused(Checks checks, SnowNode node, int id, int index, int what) {
        checks.due("set(" + id + ", " + index + ", " + what + ")", Nodes.INDEX, () -> node.set(id, index, what));
    }

    private static void allRefused(Checks checks, SnowNode node, int id) {
        for (int what = -1; what <= 5; what++) {
            refused(checks, node, id, 0, what);
        }
        refused(checks, node, id, -1, 0);
        refused(checks, node, id, 8, 0);
    }

    private static void empty(Checks checks, SnowNode node, int id, int index) {
        Nodes.set(checks, node, id, index, 0, null, null, 0);
        checks.same("set(" + id + ", " + index + ", 4)", Nodes.NONE, node.set(id, index, 4));
    }

    // The transaction

    static void p11_unknown(Checks checks) {
        SnowNode node = Nodes.quick(1, 1);
        Nodes.beside(0, 77).take(node);
        for (int id : new int[] {77, 1, -1, Nodes.MIN, Nodes.MAX}) {
            allRefused(checks, node, id);
        }
    }

    static void p11_waiting(Checks checks) {
        SnowNode node = Nodes.quick(1, 1);
        Row waiting = Nodes.beside(0, 77);
        waiting.take(node);
        allRefused(checks, node, waiting.id());
    }

    static void p11_bad(Checks checks) {
        SnowNode node = Nodes.quick(1, 1);
        Row bad = Nodes.spend(0, 1);
        bad.take(node);
        allRefused(checks, node, bad.id());
    }

    static void p11_heldAcceptedAndRejected(Checks checks) {
        SnowNode node = Nodes.quick(1, 1);
        Row accepted = Nodes.spend(0, 1000000);
        Row rejected = Nodes.spend(0, 999999, 1);
        Row held = Nodes.spend(1, 1000000);
        Nodes.win(node, accepted);
        Nodes.takeAll(node, rejected, held);
        for (Row row : new Row[] {accepted, rejected, held}) {
            empty(checks, node, row.id(), 0);
        }
        Row child = Row.under(rejected.id()).spends(rejected.id(), 1).pays(1);
        child.take(node);
        Nodes.set(checks, node, rejected.id(), 1, 1, null, child, 0);
    }

    // The output

    static void p11_indexBelow0(Checks checks) {
        SnowNode node = Nodes.quick(1, 1);
        for (int index : new int[] {-1, -8, Nodes.MIN}) {
            refused(checks, node, 0, index, 0);
        }
    }

    static void p11_firstAndLastOutputOfTheGenesis(Checks checks) {
        empty(checks, Nodes.quick(1, 1), 0, 0);
        empty(checks, Nodes.quick(1, 1), 0, 7);
    }

    static void p11_indexBehindTheGenesisOutputs(Checks checks) {
        SnowNode node = Nodes.quick(1, 1);
        for (int index : new int[] {8, 9, 255, Nodes.MAX}) {
            refused(checks, node, 0, index, 0);
        }
    }

    static void p11_firstAndLastOutputOfOthers(Checks checks) {
        for (int outputs = 1; outputs <= 4; outputs++) {
            SnowNode node = Nodes.quick(1, 1);
            int[] amounts = new int[outputs];
            java.util.Arrays.fill(amounts, 1);
            amounts[0] = 1000001 - outputs;
            Row row = Nodes.spend(0, amounts);
            row.take(node);
            refused(checks, node, row.id(), -1, 0);
            empty(checks, node, row.id(), 0);
            empty(checks, node, row.id(), outputs - 1);
            refused(checks, node, row.id(), outputs, 0);
        }
    }

    // What is asked

    static void p11_whatBelow0(Checks checks) {
        SnowNode node = Nodes.quick(1, 1);
        refused(checks, node, 0, 0, -1);
        refused(checks, node, 0, 0, Nodes.MIN);
    }

    static void p11_whatOf0To4(Checks checks) {
        SnowNode node = Nodes.quick(1, 2);
        Row first = Nodes.spend(0, 1000000);
        Row second = Nodes.spend(0, 999999, 1);
        Nodes.takeAll(node, first, second);
        node.poll();
        Nodes.say(node, node.poll(), true);
        int[] want = {2, second.id(), second.id(), 1, Nodes.NONE};
        for (int what = 0; what < 5; what++) {
            checks.same("set(0, 0, " + what + ")", want[what], node.set(0, 0, what));
        }
        Nodes.win(node, Row.under(second.id()).spends(second.id(), 1).pays(1));
        int[] behind = {2, second.id(), second.id(), 2, second.id()};
        for (int what = 0; what < 5; what++) {
            checks.same("set(0, 0, " + what + ") when accepted", behind[what], node.set(0, 0, what));
        }
    }

    static void p11_whatAbove4(Checks checks) {
        SnowNode node = Nodes.quick(1, 1);
        refused(checks, node, 0, 0, 5);
        refused(checks, node, 0, 0, 6);
        refused(checks, node, 0, 0, Nodes.MAX);
    }

    // NONE

    static void p11_noFavouriteAndLatestAtFirst(Checks checks) {
        SnowNode node = Nodes.quick(1, 1);
        checks.same("set(0, 0, 1)", Nodes.NONE, node.set(0, 0, 1));
        checks.same("set(0, 0, 2)", Nodes.NONE, node.set(0, 0, 2));
        Row row = Nodes.spend(0, 1000000);
        row.take(node);
        checks.same("set(0, 0, 1) behind the first one", row.id(), node.set(0, 0, 1));
        checks.same("set(0, 0, 2) behind the first one", row.id(), node.set(0, 0, 2));
    }

    /** The favourite is gone, the latest stays though it was rejected. */
    static void p11_noFavouriteBehindARejection(Checks checks) {
        SnowNode node = Nodes.quick(1, 1);
        Row winner = Nodes.spend(0, 1000000);
        Row loser = Row.under(0).spends(0, 0, 0, 1).pays(2000000);
        Nodes.takeAll(node, winner, loser);
        Nodes.set(checks, node, 0, 1, 1, loser, loser, 0);
        Nodes.say(node, node.poll(), true);
        Nodes.set(checks, node, 0, 1, 1, null, loser, 0);
        checks.same("set(0, 1, 4)", Nodes.NONE, node.set(0, 1, 4));
    }

    static void p11_waitingAndBadOnesDoNotJoin(Checks checks) {
        SnowNode node = Nodes.quick(1, 1);
        Nodes.takeAll(node, Nodes.beside(0, 77), Nodes.spend(0, 1), Row.under(0).spends(0, 0, 0, 8).pays(1000000));
        empty(checks, node, 0, 0);
    }

    static void p11_rejectedOnesHaveJoined(Checks checks) {
        SnowNode node = Nodes.quick(1, 1);
        Nodes.win(node, Nodes.spend(0, 1000000));
        for (int i = 1; i <= 3; i++) {
            Nodes.spend(0, 1000000 - i, i).take(node);
            checks.same("set(0, 0, 0)", i + 1, node.set(0, 0, 0));
        }
        checks.same("count(4)", 3, node.count(4));
    }

    static void p11_refusedChangesNothing(Checks checks) {
        Scene.refusedChangesNothing(checks, node -> {
            refused(checks, node, 77, 0, 0);
            refused(checks, node, 0, 8, 0);
            refused(checks, node, 0, -1, 0);
            refused(checks, node, 0, 0, 5);
            refused(checks, node, 0, 0, -1);
        });
    }
}
