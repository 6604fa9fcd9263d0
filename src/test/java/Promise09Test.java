/** Promise 9, case by case: which polls can expire, and what an expired one leaves. */
public final class Promise09Test {
    public static void main(String[] args) {
        Cases.run(Promise09Test.class);
    }

    private static final Row ROW = Nodes.spend(0, 1000000);

    private static SnowNode polled(int k, int alpha) {
        SnowNode node = new SnowNode(6, k, alpha, 2, 3);
        ROW.take(node);
        node.poll();
        return node;
    }

    static void p09_noPollSoFar(Checks checks) {
        SnowNode node = Nodes.quick(1, 1);
        for (int poll : new int[] {Nodes.MIN, -1, 0, 1, Nodes.MAX}) {
            checks.same("expire(" + poll + ")", false, node.expire(poll));
        }
        checks.same("count(7)", 0, node.count(7));
    }

    static void p09_pollBelow0AndBehindTheLast(Checks checks) {
        SnowNode node = polled(3, 2);
        for (int poll : new int[] {Nodes.MIN, -2, -1, 1, 2, Nodes.MAX}) {
            checks.same("expire(" + poll + ")", false, node.expire(poll));
        }
        checks.same("count(6)", 1, node.count(6));
        checks.same("expire(0)", true, node.expire(0));
    }

    static void p09_expiredPoll(Checks checks) {
        SnowNode node = polled(3, 2);
        checks.same("expire(0)", true, node.expire(0));
        checks.same("expire(0) again", false, node.expire(0));
        checks.same("count(6)", 0, node.count(6));
        checks.same("count(7)", 1, node.count(7));
        checks.same("count(8)", 0, node.count(8));
    }

    static void p09_wonPoll(Checks checks) {
        SnowNode node = polled(3, 2);
        Nodes.say(node, 0, true);
        checks.same("expire(0)", false, node.expire(0));
        Nodes.set(checks, node, 0, 0, 1, ROW, ROW, 1);
        checks.same("count(8)", 1, node.count(8));
    }

    static void p09_lostPoll(Checks checks) {
        SnowNode node = polled(3, 2);
        Nodes.say(node, 0, false);
        checks.same("expire(0)", false, node.expire(0));
        checks.same("count(6)", 0, node.count(6));
    }

    /** One yes is missing: it is lost all the same. */
    static void p09_expiresWithOneYesTooFew(Checks checks) {
        SnowNode node = polled(10, 10);
        for (int j = 0; j < 9; j++) {
            node.answer(0, node.sampled(0, j), true);
        }
        checks.same("expire(0)", true, node.expire(0));
        checks.same("chit", 0, node.look(ROW.id(), 2));
        checks.same("count(8)", 0, node.count(8));
        Nodes.set(checks, node, 0, 0, 1, ROW, ROW, 0);
    }

    static void p09_expiresWithOneNoTooFew(Checks checks) {
        SnowNode node = polled(10, 6);
        for (int j = 0; j < 4; j++) {
            node.answer(0, node.sampled(0, j), false);
        }
        checks.same("count(6)", 1, node.count(6));
        checks.same("expire(0)", true, node.expire(0));
        checks.same("count(6) behind it", 0, node.count(6));
    }

    static void p09_runsAre0(Checks checks) {
        SnowNode node = Nodes.quick(9, 9);
        Row child = Row.under(ROW.id()).spends(ROW.id(), 0).pays(1000000);
        Row beside = Nodes.spend(1, 1000000);
        Nodes.win(node, ROW, child, beside);
        Nodes.set(checks, node, 0, 0, 1, ROW, ROW, 2);
        Row last = Row.under(child.id()).spends(child.id(), 0).pays(1000000);
        last.take(node);
        checks.same("expire(3)", true, node.expire(node.poll()));
        Nodes.set(checks, node, 0, 0, 1, ROW, ROW, 0);
        Nodes.set(checks, node, ROW.id(), 0, 1, child, child, 0);
        Nodes.set(checks, node, child.id(), 0, 1, last, last, 0);
        Nodes.set(checks, node, 0, 1, 1, beside, beside, 1);
        checks.same("confidence", 2, node.look(ROW.id(), 1));
    }

    static void p09_pollAboutARejectedOne(Checks checks) {
        SnowNode node = Nodes.quick(1, 1);
        Row loser = Nodes.spend(0, 999999, 1);
        Nodes.takeAll(node, ROW, loser);
        node.poll();
        node.poll();
        Nodes.say(node, 0, true);
        Nodes.state(checks, node, "the loser", Nodes.REJECTED, loser);
        checks.same("expire(1)", true, node.expire(1));
        Nodes.set(checks, node, 0, 0, 2, ROW, ROW, 1);
        checks.same("count(6)", 0, node.count(6));
    }

    static void p09_pollAboutAnAcceptedOne(Checks checks) {
        SnowNode node = Nodes.quick(1, 1);
        ROW.take(node);
        node.poll();
        Nodes.win(node, Row.under(ROW.id()).spends(ROW.id(), 0).pays(1000000));
        Nodes.state(checks, node, "it", Nodes.ACCEPTED, ROW);
        checks.same("expire(0)", true, node.expire(0));
        Nodes.set(checks, node, 0, 0, 1, ROW, ROW, 0);
        Nodes.state(checks, node, "it behind that", Nodes.ACCEPTED, ROW);
    }

    static void p09_otherPollsStayOpen(Checks checks) {
        SnowNode node = polled(3, 2);
        Nodes.takeAll(node, Nodes.spend(1, 1000000), Nodes.spend(2, 1000000));
        node.poll();
        node.poll();
        checks.same("expire(1)", true, node.expire(1));
        checks.same("the first one's ID", ROW.id(), node.sampled(0, Nodes.NONE));
        checks.same("the last one's ID", Nodes.spend(2, 1000000).id(), node.sampled(2, Nodes.NONE));
        checks.same("count(6)", 2, node.count(6));
    }

    static void p09_sixOpenExpire(Checks checks) {
        SnowNode node = Nodes.quick(9, 9);
        for (int i = 0; i < 6; i++) {
            Nodes.spend(i, 1000000).take(node);
            node.poll();
        }
        for (int i = 5; i >= 0; i--) {
            checks.same("expire(" + i + ")", true, node.expire(i));
            checks.same("count(6)", i, node.count(6));
        }
    }

    static void p09_refusedChangesNothing(Checks checks) {
        Scene.refusedChangesNothing(checks, node -> {
            for (int poll : new int[] {Nodes.MIN, -1, 0, 2, 4, 5, Nodes.MAX}) {
                checks.same("expire(" + poll + ")", false, node.expire(poll));
            }
        });
    }
}
