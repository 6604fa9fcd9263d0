/** Promise 20, case by case: what is counted, at its least and at its most, and what is not. */
public final class Promise20Test {
    public static void main(String[] args) {
        Cases.run(Promise20Test.class);
    }

    private static void countDue(Checks checks, SnowNode node, int want, int what) {
        checks.same("count(" + what + ")", want, node.count(what));
    }

    static void p20_whatBelow0(Checks checks) {
        SnowNode node = Nodes.quick(1, 1);
        countDue(checks, node, Nodes.NONE, -1);
        countDue(checks, node, Nodes.NONE, -2);
        countDue(checks, node, Nodes.NONE, Nodes.MIN);
    }

    static void p20_whatOf0To10(Checks checks) {
        SnowNode node = Nodes.quick(1, 1);
        int[] want = {1, 0, 1, 1, 0, 0, 0, 0, 0, 0, 8000000};
        for (int what = 0; what < want.length; what++) {
            countDue(checks, node, want[what], what);
        }
    }

    static void p20_whatAbove10(Checks checks) {
        SnowNode node = Nodes.quick(1, 1);
        countDue(checks, node, Nodes.NONE, 11);
        countDue(checks, node, Nodes.NONE, 12);
        countDue(checks, node, Nodes.NONE, Nodes.MAX);
    }

    static void p20_everythingAtOnce(Checks checks) {
        SnowNode node = Nodes.quick(1, 1);
        Row winner = Nodes.spend(0, 1000000);
        Row loser = Nodes.spend(0, 999999, 1);
        Row child = Nodes.beside(1, loser.id());
        Row open = Nodes.spend(2, 1000000);
        Nodes.takeAll(node, winner, loser, child, open, Nodes.beside(3, 7), Nodes.beside(3, 8), Nodes.beside(3, 9));
        Nodes.takeAll(node, Nodes.spend(3, 1), Nodes.spend(3, 2));
        for (int i = 0; i < 4; i++) {
            node.poll();
        }
        Nodes.say(node, 0, true);
        node.feed(1);
        node.feed(2);
        int[] want = {10, 3, 5, 2, 2, 2, 3, 4, 1, 8, 8000000};
        for (int what = 0; what < want.length; what++) {
            countDue(checks, node, want[what], what);
        }
    }

    /** Accepted and rejected ones are held ones, waiting and bad ones are known only. */
    static void p20_knownWaitingHeldAndBad(Checks checks) {
        SnowNode node = Nodes.quick(1, 1);
        Row late = Nodes.spend(0, 1000000);
        Nodes.takeAll(node, Nodes.beside(1, late.id()), Row.under(late.id()).spends(0, 2).pays(1));
        int[] before = {3, 2, 1, 1, 0, 0};
        int[] behind = {4, 0, 3, 1, 0, 1};
        for (int what = 0; what < 6; what++) {
            countDue(checks, node, before[what], what);
        }
        late.take(node);
        for (int what = 0; what < 6; what++) {
            countDue(checks, node, behind[what], what);
        }
    }

    static void p20_refusedTakeIsNotKnown(Checks checks) {
        SnowNode node = Nodes.quick(1, 1);
        Row row = Nodes.spend(0, 1000000);
        row.take(node);
        checks.due("take of it again", Nodes.STATE, () -> row.take(node));
        checks.due("take of none", Nodes.ARGUMENT, () -> Row.under(0).take(node));
        countDue(checks, node, 2, 0);
    }

    static void p20_pollsOpenSoFarAndWon(Checks checks) {
        SnowNode node = new SnowNode(3, 3, 2, 9, 9);
        for (int i = 0; i < 7; i++) {
            Nodes.spend(i, 1000000).take(node);
        }
        for (int i = 0; i < 6; i++) {
            node.poll();
            countDue(checks, node, i + 1, 6);
            countDue(checks, node, i + 1, 7);
            countDue(checks, node, 0, 8);
        }
        checks.due("poll() with six open", Nodes.STATE, () -> node.poll());
        countDue(checks, node, 6, 6);
        countDue(checks, node, 6, 7);
        node.answer(0, node.sampled(0, 0), true);
        countDue(checks, node, 6, 6);
        countDue(checks, node, 0, 8);
        node.answer(0, node.sampled(0, 1), true);
        countDue(checks, node, 5, 6);
        countDue(checks, node, 1, 8);
        Nodes.say(node, 1, false);
        node.expire(2);
        countDue(checks, node, 3, 6);
        countDue(checks, node, 6, 7);
        countDue(checks, node, 1, 8);
        Nodes.say(node, 5, true);
        countDue(checks, node, 2, 6);
        countDue(checks, node, 2, 8);
    }

    /** A poll is won by its answers, whatever became of its transaction. */
    static void p20_wonAboutARejectedOne(Checks checks) {
        SnowNode node = Nodes.quick(1, 1);
        Nodes.takeAll(node, Nodes.spend(0, 1000000), Nodes.spend(0, 999999, 1));
        node.poll();
        node.poll();
        Nodes.say(node, 0, true);
        countDue(checks, node, 1, 4);
        countDue(checks, node, 1, 8);
        Nodes.say(node, 1, true);
        countDue(checks, node, 2, 8);
        countDue(checks, node, 0, 6);
    }

    static void p20_bytesOnTheTape(Checks checks) {
        SnowNode node = Nodes.quick(1, 1);
        for (int i = 0; i <= 32; i++) {
            countDue(checks, node, 4 * i, 9);
            checks.same("feed no. " + i, i < 32, node.feed(i));
        }
        countDue(checks, node, 128, 9);
        checks.due("take(1)", Nodes.ARGUMENT, () -> node.take(1));
        countDue(checks, node, 0, 9);
    }

    /** What is spent comes out again: only how it is divided changes. */
    static void p20_allThatIsUnspent(Checks checks) {
        SnowNode node = Nodes.quick(1, 1);
        Row all = Row.under(0).spends(0, 0, 0, 1, 0, 2, 0, 3).pays(1, 2, 3, 3999994);
        all.take(node);
        countDue(checks, node, 8000000, 10);
        Nodes.say(node, node.poll(), true);
        Nodes.state(checks, node, "it", Nodes.ACCEPTED, all);
        countDue(checks, node, 8000000, 10);
        checks.same("unspent of its last output", 3999994, node.unspent(all.id(), 3));
        Nodes.takeAll(node, Nodes.spend(0, 1000000), Nodes.spend(4, 1000000));
        countDue(checks, node, 8000000, 10);
    }
}
