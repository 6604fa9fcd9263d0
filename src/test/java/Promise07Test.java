/** Promise 7, case by case: which polls and peers of a sample there are. */
public final class Promise07Test {
    public static void main(String[] args) {
        Cases.run(Promise07Test.class);
    }

    private static final Row ROW = Nodes.spend(0, 1000000);

    private static SnowNode polled(int k) {
        SnowNode node = new SnowNode(6, k, k, 9, 9);
        ROW.take(node);
        node.poll();
        return node;
    }

    private static void refused(Checks checks, SnowNode node, int poll, int j) {
        checks.due("sampled(" + poll + ", " + j + ")", Nodes.INDEX, () -> node.sampled(poll, j));
    }

    static void p07_noPollSoFar(Checks checks) {
        SnowNode node = Nodes.quick(1, 1);
        for (int poll : new int[] {-1, 0, 1, Nodes.MIN, Nodes.MAX}) {
            refused(checks, node, poll, 0);
            refused(checks, node, poll, Nodes.NONE);
        }
    }

    static void p07_jOfNoneIsTheId(Checks checks) {
        checks.same("sampled(0, NONE)", ROW.id(), polled(3).sampled(0, Nodes.NONE));
    }

    static void p07_jBelowNone(Checks checks) {
        for (int j : new int[] {-2, -3, Nodes.MIN}) {
            refused(checks, polled(3), 0, j);
        }
    }

    static void p07_firstAndLastJ(Checks checks) {
        for (int k = 1; k <= 10; k++) {
            SnowNode node = polled(k);
            int[] sample = new Draw(6).sample(k);
            checks.same("the first of " + k, sample[0], node.sampled(0, 0));
            checks.same("the last of " + k, sample[k - 1], node.sampled(0, k - 1));
        }
    }

    static void p07_jOfK(Checks checks) {
        for (int k = 1; k <= 10; k++) {
            refused(checks, polled(k), 0, k);
            refused(checks, polled(k), 0, k + 1);
        }
        refused(checks, polled(10), 0, Nodes.MAX);
    }

    static void p07_pollBelow0(Checks checks) {
        for (int poll : new int[] {-1, -2, Nodes.MIN}) {
            refused(checks, polled(3), poll, 0);
            refused(checks, polled(3), poll, Nodes.NONE);
        }
    }

    static void p07_pollBehindTheLast(Checks checks) {
        for (int poll : new int[] {1, 2, Nodes.MAX}) {
            refused(checks, polled(3), poll, 0);
            refused(checks, polled(3), poll, Nodes.NONE);
        }
    }

    static void p07_closedPoll(Checks checks) {
        for (int way = 0; way < 3; way++) {
            SnowNode node = polled(3);
            Row other = Nodes.spend(1, 1000000);
            other.take(node);
            node.poll();
            if (way == 0) {
                node.expire(0);
            } else {
                Nodes.say(node, 0, way == 1);
            }
            for (int j = -1; j < 3; j++) {
                refused(checks, node, 0, j);
            }
            checks.same("the other one's ID", other.id(), node.sampled(1, Nodes.NONE));
        }
    }

    /** Answers that leave it open change nothing of the sample. */
    static void p07_pollWithAnswers(Checks checks) {
        SnowNode node = polled(3);
        int[] sample = new Draw(6).sample(3);
        node.answer(0, sample[0], true);
        node.answer(0, sample[2], true);
        Draw.same(checks, node, 0, sample);
        checks.same("sampled(0, NONE)", ROW.id(), node.sampled(0, Nodes.NONE));
    }

    /** The transaction is rejected meanwhile; the poll is open still. */
    static void p07_pollAboutARejectedOne(Checks checks) {
        SnowNode node = Nodes.quick(1, 1);
        Row loser = Nodes.spend(0, 999999, 1);
        Nodes.takeAll(node, ROW, loser);
        node.poll();
        node.poll();
        Nodes.say(node, 0, true);
        Nodes.state(checks, node, "the loser", Nodes.REJECTED, loser);
        checks.same("sampled(1, NONE)", loser.id(), node.sampled(1, Nodes.NONE));
    }

    static void p07_refusedChangesNothing(Checks checks) {
        Scene.refusedChangesNothing(checks, node -> {
            refused(checks, node, 0, 0);
            refused(checks, node, 4, Nodes.NONE);
            refused(checks, node, -1, Nodes.NONE);
            refused(checks, node, Scene.POLL_OPEN, 3);
            refused(checks, node, Scene.POLL_OPEN, -2);
        });
    }
}
