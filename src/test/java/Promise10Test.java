/** Promise 10, case by case: what there is to look at, and of whom it is 0. */
public final class Promise10Test {
    public static void main(String[] args) {
        Cases.run(Promise10Test.class);
    }

    private static void looks(Checks checks, SnowNode node, String name, int id, int... want) {
        for (int what = 0; what < want.length; what++) {
            checks.same("look " + what + " of " + name, want[what], node.look(id, what));
        }
    }

    /** IDs of an accepted, a rejected, a held, a waiting, a bad and an unknown one, and the genesis. */
    private static int[] everyState(SnowNode node) {
        Row accepted = Nodes.spend(0, 600000, 400000);
        Row rejected = Nodes.spend(0, 1000000);
        Row held = Row.under(0, accepted.id()).spends(0, 1).pays(1, 999999);
        Row waiting = Row.under(77, 78, 0).spends(0, 2, 0, 3).pays(1, 2, 3);
        Row bad = Row.under(accepted.id(), held.id(), 0).spends(0, 2, 0, 3, 0, 4).pays(1, 2, 3, 4);
        Nodes.win(node, accepted);
        Nodes.takeAll(node, rejected, held, waiting, bad);
        return new int[] {accepted.id(), rejected.id(), held.id(), waiting.id(), bad.id(), 77, 0};
    }

    static void p10_whatBelow0(Checks checks) {
        SnowNode node = Nodes.quick(1, 1);
        for (int id : everyState(node)) {
            checks.due("look(" + id + ", -1)", Nodes.INDEX, () -> node.look(id, -1));
            checks.due("look(" + id + ", min)", Nodes.INDEX, () -> node.look(id, Nodes.MIN));
        }
    }

    static void p10_whatOf0(Checks checks) {
        SnowNode node = Nodes.quick(1, 1);
        int[] ids = everyState(node);
        int[] states = {Nodes.ACCEPTED, Nodes.REJECTED, Nodes.HELD, Nodes.WAITING, Nodes.BAD, Nodes.UNKNOWN,
            Nodes.ACCEPTED};
        for (int i = 0; i < ids.length; i++) {
            checks.same("the state of no. " + i, states[i], node.look(ids[i], 0));
        }
    }

    static void p10_whatOf9(Checks checks) {
        SnowNode node = Nodes.quick(1, 1);
        int[] ids = everyState(node);
        int[] bytes = {20, 16, 24, 37, 46, 0, 0};
        for (int i = 0; i < ids.length; i++) {
            checks.same("the bytes of no. " + i, bytes[i], node.look(ids[i], 9));
        }
    }

    static void p10_whatAbove9(Checks checks) {
        SnowNode node = Nodes.quick(1, 1);
        for (int id : everyState(node)) {
            checks.due("look(" + id + ", 10)", Nodes.INDEX, () -> node.look(id, 10));
            checks.due("look(" + id + ", 11)", Nodes.INDEX, () -> node.look(id, 11));
            checks.due("look(" + id + ", max)", Nodes.INDEX, () -> node.look(id, Nodes.MAX));
        }
    }

    static void p10_unknown(Checks checks) {
        SnowNode node = Nodes.quick(1, 1);
        Nodes.beside(0, 77).take(node);
        for (int id : new int[] {77, 1, -1, Nodes.MIN, Nodes.MAX}) {
            looks(checks, node, "unknown " + id, id, 0, 0, 0, 0, 0, 0, 0, 0, 0, 0);
        }
    }

    static void p10_genesis(Checks checks) {
        looks(checks, Nodes.quick(1, 1), "the genesis", 0, 3, 0, 0, 1, 0, 0, 0, 0, 8, 0);
    }

    /** What is not held has no confidence, chit, ancestors or those under it, but its row. */
    static void p10_waiting(Checks checks) {
        SnowNode node = Nodes.quick(1, 1);
        Row waiting = Row.under(0, 77).spends(0, 0).pays(1000000);
        Row child = Row.under(waiting.id()).spends(0, 1).pays(1000000);
        Nodes.takeAll(node, waiting, child);
        looks(checks, node, "a waiting one", waiting.id(), 1, 0, 0, 0, 0, 0, 2, 1, 1, 20);
        looks(checks, node, "its child", child.id(), 1, 0, 0, 0, 0, 0, 1, 1, 1, 16);
        checks.same("those under the genesis", 0, node.look(0, 5));
    }

    /** Its parents are held, and still it has no ancestors and is under none. */
    static void p10_bad(Checks checks) {
        SnowNode node = Nodes.quick(1, 1);
        Row parent = Nodes.spend(0, 1000000);
        Row bad = Row.under(parent.id(), 0).spends(0, 1).pays(1, 2, 3, 4);
        Row child = Row.under(bad.id()).spends(0, 2).pays(1000000);
        Nodes.takeAll(node, parent, bad, child);
        looks(checks, node, "a bad one", bad.id(), 5, 0, 0, 0, 0, 0, 2, 1, 4, 32);
        looks(checks, node, "its child", child.id(), 5, 0, 0, 0, 0, 0, 1, 1, 1, 16);
        checks.same("those under its parent", 0, node.look(parent.id(), 5));
        checks.same("those under the genesis", 1, node.look(0, 5));
    }

    static void p10_rejectedIsHeld(Checks checks) {
        SnowNode node = Nodes.quick(1, 1);
        Row winner = Nodes.spend(0, 1000000);
        Row loser = Nodes.spend(0, 999999, 1);
        Row child = Nodes.beside(1, loser.id(), winner.id());
        Nodes.win(node, winner);
        Nodes.takeAll(node, loser, child);
        looks(checks, node, "the winner", winner.id(), 3, 1, 1, 1, 1, 1);
        looks(checks, node, "the loser", loser.id(), 4, 0, 0, 0, 1, 1);
        looks(checks, node, "its child", child.id(), 4, 0, 0, 0, 3, 0);
        looks(checks, node, "the genesis", 0, 3, 1, 0, 1, 0, 3);
    }

    /** A chit that was had before the rejection stays, and counts. */
    static void p10_rejectedKeepsItsChit(Checks checks) {
        SnowNode node = Nodes.quick(1, 2);
        Row loser = Nodes.spend(0, 1000000);
        Row winner = Nodes.spend(0, 999999, 1);
        Nodes.win(node, loser, winner);
        Row child = Row.under(winner.id()).spends(winner.id(), 1).pays(1);
        Nodes.win(node, child);
        looks(checks, node, "the loser", loser.id(), 4, 1, 1, 0);
        looks(checks, node, "the winner", winner.id(), 3, 2, 1, 1);
        looks(checks, node, "the genesis", 0, 3, 3, 0, 1);
    }

    /** It itself and all under it count, each once, whichever way leads there. */
    static void p10_confidenceCountsEachOnce(Checks checks) {
        SnowNode node = Nodes.quick(9, 9);
        Row a = Nodes.spend(0, 1000000);
        Row left = Nodes.beside(1, a.id());
        Row right = Nodes.beside(2, a.id(), 0);
        Row below = Nodes.beside(3, left.id(), right.id(), a.id());
        Nodes.takeAll(node, a, left, right, below);
        checks.same("ancestors of the lowest", 4, node.look(below.id(), 4));
        checks.same("those under the highest", 3, node.look(a.id(), 5));
        checks.same("those under the genesis", 4, node.look(0, 5));
        for (int i = 0; i < 4; i++) {
            node.poll();
        }
        int[][] want = {{1, 1, 1, 1}, {2, 1, 2, 1}, {3, 2, 2, 1}, {4, 2, 2, 1}};
        int[] polls = {3, 2, 1, 0};
        for (int i = 0; i < 4; i++) {
            Nodes.say(node, polls[i], true);
            checks.same("confidence of the highest", want[i][0], node.look(a.id(), 1));
            checks.same("confidence of the left one", want[i][1], node.look(left.id(), 1));
            checks.same("confidence of the right one", want[i][2], node.look(right.id(), 1));
            checks.same("confidence of the lowest", want[i][3], node.look(below.id(), 1));
            checks.same("confidence of the genesis", i + 1, node.look(0, 1));
        }
    }

    static void p10_likedByAllItsSets(Checks checks) {
        SnowNode node = Nodes.quick(9, 9);
        Row first = Nodes.spend(0, 1000000);
        Row both = Row.under(0).spends(0, 1, 0, 0).pays(2000000);
        Row none = Nodes.spend(1, 1000000);
        Nodes.takeAll(node, first, both, none);
        checks.same("favourite of its set", 1, node.look(first.id(), 3));
        checks.same("favourite of one of two", 0, node.look(both.id(), 3));
        checks.same("favourite of none", 0, node.look(none.id(), 3));
    }

    static void p10_mostAndLeastOfARow(Checks checks) {
        SnowNode node = Nodes.quick(1, 1);
        Row most = Row.under(1, 2, 3, 4).spends(0, 0, 0, 1, 0, 2, 0, 3).pays(1, 2, 3, 4);
        Row least = Nodes.spend(0, 1000000);
        Nodes.takeAll(node, most, least);
        looks(checks, node, "the longest", most.id(), 1, 0, 0, 0, 0, 0, 4, 4, 4, 55);
        looks(checks, node, "the shortest", least.id(), 2, 0, 0, 1, 1, 0, 1, 1, 1, 16);
    }

    static void p10_refusedChangesNothing(Checks checks) {
        Scene.refusedChangesNothing(checks, node -> {
            checks.due("look(0, -1)", Nodes.INDEX, () -> node.look(0, -1));
            checks.due("look(0, 10)", Nodes.INDEX, () -> node.look(0, 10));
            checks.due("look(77, 10)", Nodes.INDEX, () -> node.look(77, 10));
        });
    }
}
