/**
 * Promise 8, case by case: who may answer, which answer closes a poll, and which exception comes
 * first. What a closed poll does stands in Promise08ClosedTest.
 */
public final class Promise08Test {
    public static void main(String[] args) {
        Cases.run(Promise08Test.class);
    }

    private static final Row ROW = Nodes.spend(0, 1000000);

    private static SnowNode polled(int k, int alpha) {
        SnowNode node = new SnowNode(6, k, alpha, 9, 9);
        Nodes.takeAll(node, ROW, Nodes.spend(1, 1000000));
        node.poll();
        return node;
    }

    private static void answered(Checks checks, SnowNode node, int j, boolean yes, Object want) {
        int peer = node.sampled(0, j);
        checks.due("answer " + yes + " by no. " + j, want, () -> node.answer(0, peer, yes));
    }

    private static void refused(Checks checks, SnowNode node, int poll, int peer, Class<?> want) {
        checks.due("answer(" + poll + ", " + peer + ", true)", want, () -> node.answer(poll, peer, true));
        checks.due("answer(" + poll + ", " + peer + ", false)", want, () -> node.answer(poll, peer, false));
    }

    // No such open poll

    static void p08_noPollSoFar(Checks checks) {
        SnowNode node = Nodes.quick(1, 1);
        for (int poll : new int[] {Nodes.MIN, -1, 0, 1, Nodes.MAX}) {
            refused(checks, node, poll, 0, Nodes.ARGUMENT);
            refused(checks, node, poll, -1, Nodes.ARGUMENT);
        }
    }

    static void p08_pollBelow0(Checks checks) {
        SnowNode node = polled(3, 2);
        refused(checks, node, -1, node.sampled(0, 0), Nodes.ARGUMENT);
        refused(checks, node, Nodes.MIN, node.sampled(0, 0), Nodes.ARGUMENT);
    }

    static void p08_pollBehindTheLast(Checks checks) {
        SnowNode node = polled(3, 2);
        refused(checks, node, 1, node.sampled(0, 0), Nodes.ARGUMENT);
        refused(checks, node, Nodes.MAX, node.sampled(0, 0), Nodes.ARGUMENT);
    }

    /** Those who have spoken and those who have not are refused alike. */
    static void p08_closedPoll(Checks checks) {
        for (int way = 0; way < 3; way++) {
            SnowNode node = polled(3, 2);
            int[] sample = new Draw(6).sample(3);
            if (way == 0) {
                node.answer(0, sample[0], true);
                node.expire(0);
            } else {
                Nodes.say(node, 0, way == 1);
            }
            for (int peer : sample) {
                refused(checks, node, 0, peer, Nodes.ARGUMENT);
            }
            refused(checks, node, 0, 20, Nodes.ARGUMENT);
            checks.same("count(8)", way == 1 ? 1 : 0, node.count(8));
        }
    }

    // The peer

    static void p08_peerNotOfTheSample(Checks checks) {
        SnowNode node = polled(3, 2);
        int inSample = 0;
        for (int j = 0; j < 3; j++) {
            inSample |= 1 << node.sampled(0, j);
        }
        for (int peer = 0; peer < 20; peer++) {
            if ((inSample >> peer & 1) == 0) {
                refused(checks, node, 0, peer, Nodes.ARGUMENT);
            }
        }
    }

    static void p08_noPeerAtAll(Checks checks) {
        for (int peer : new int[] {Nodes.MIN, -2, -1, 20, 21, Nodes.MAX}) {
            refused(checks, polled(3, 2), 0, peer, Nodes.ARGUMENT);
            refused(checks, polled(10, 6), 0, peer, Nodes.ARGUMENT);
        }
    }

    static void p08_everyPeerOfTheSample(Checks checks) {
        for (int j = 0; j < 10; j++) {
            answered(checks, polled(10, 6), j, true, 0);
            answered(checks, polled(10, 6), j, false, 0);
        }
    }

    static void p08_peerHasSaidSomething(Checks checks) {
        for (int way = 0; way < 2; way++) {
            SnowNode node = polled(3, 2);
            answered(checks, node, 1, way == 0, 0);
            refused(checks, node, 0, node.sampled(0, 1), Nodes.STATE);
        }
    }

    static void p08_peerHasSaidSomethingInAnotherPoll(Checks checks) {
        SnowNode node = new SnowNode(6, 3, 2, 9, 9);
        for (int peer = 3; peer < 20; peer++) {
            node.weigh(peer, 0);
        }
        Nodes.takeAll(node, ROW, Nodes.spend(1, 1000000));
        node.poll();
        node.poll();
        checks.due("answer(0, 1, true)", 0, () -> node.answer(0, 1, true));
        checks.due("answer(1, 1, true)", 0, () -> node.answer(1, 1, true));
        refused(checks, node, 0, 1, Nodes.STATE);
        refused(checks, node, 1, 1, Nodes.STATE);
    }

    static void p08_peerThatLostItsWeightMayAnswer(Checks checks) {
        SnowNode node = polled(3, 2);
        node.weigh(node.sampled(0, 0), 0);
        answered(checks, node, 0, true, 0);
    }

    // Won and lost

    static void p08_yesOfOneLessThanAlphaAndOfAlpha(Checks checks) {
        for (int k = 1; k <= 10; k++) {
            for (int alpha = k / 2 + 1; alpha <= k; alpha++) {
                SnowNode node = polled(k, alpha);
                for (int j = 0; j < alpha - 1; j++) {
                    answered(checks, node, j, true, 0);
                }
                checks.same("count(6) before", 1, node.count(6));
                answered(checks, node, alpha - 1, true, 1);
                checks.same("count(6) behind", 0, node.count(6));
                checks.same("count(8) behind", 1, node.count(8));
            }
        }
    }

    static void p08_noOfKWithoutAlphaAndOfOneMore(Checks checks) {
        for (int k = 1; k <= 10; k++) {
            for (int alpha = k / 2 + 1; alpha <= k; alpha++) {
                SnowNode node = polled(k, alpha);
                for (int j = 0; j < k - alpha; j++) {
                    answered(checks, node, j, false, 0);
                }
                checks.same("count(6) before", 1, node.count(6));
                answered(checks, node, k - alpha, false, 2);
                checks.same("count(6) behind", 0, node.count(6));
                checks.same("count(8) behind", 0, node.count(8));
            }
        }
    }

    /** All but one have spoken, and the last one decides. */
    static void p08_lastOfTheSampleDecides(Checks checks) {
        for (int k = 1; k <= 10; k++) {
            for (int alpha = k / 2 + 1; alpha <= k; alpha++) {
                for (int way = 0; way < 2; way++) {
                    SnowNode node = polled(k, alpha);
                    for (int j = 0; j < k - 1; j++) {
                        answered(checks, node, j, j < alpha - 1, 0);
                    }
                    answered(checks, node, k - 1, way == 0, way == 0 ? 1 : 2);
                    checks.same("count(8)", way == 0 ? 1 : 0, node.count(8));
                }
            }
        }
    }

    static void p08_oneAnswerOfOne(Checks checks) {
        answered(checks, polled(1, 1), 0, true, 1);
        answered(checks, polled(1, 1), 0, false, 2);
    }

    static void p08_otherPollsStayOpen(Checks checks) {
        SnowNode node = polled(3, 2);
        node.poll();
        int peer = node.sampled(1, 0);
        node.answer(1, peer, true);
        Nodes.say(node, 0, true);
        checks.same("count(6)", 1, node.count(6));
        refused(checks, node, 1, peer, Nodes.STATE);
        int second = node.sampled(1, 1);
        checks.due("its second yes", 1, () -> node.answer(1, second, true));
    }

    // What is refused does not count

    static void p08_refusedYesDoesNotCount(Checks checks) {
        SnowNode node = polled(3, 2);
        int[] sample = new Draw(6).sample(3);
        answered(checks, node, 0, true, 0);
        refused(checks, node, 0, sample[0], Nodes.STATE);
        refused(checks, node, 0, -1, Nodes.ARGUMENT);
        refused(checks, node, 1, sample[1], Nodes.ARGUMENT);
        answered(checks, node, 1, false, 0);
        answered(checks, node, 2, true, 1);
    }

    static void p08_refusedNoDoesNotCount(Checks checks) {
        SnowNode node = polled(3, 2);
        int[] sample = new Draw(6).sample(3);
        answered(checks, node, 0, false, 0);
        refused(checks, node, 0, sample[0], Nodes.STATE);
        refused(checks, node, 0, 20, Nodes.ARGUMENT);
        refused(checks, node, 1, sample[1], Nodes.ARGUMENT);
        answered(checks, node, 1, true, 0);
        answered(checks, node, 2, false, 2);
    }

    static void p08_refusedChangesNothing(Checks checks) {
        Scene.refusedChangesNothing(checks, node -> {
            refused(checks, node, 0, 0, Nodes.ARGUMENT);
            refused(checks, node, 4, 0, Nodes.ARGUMENT);
            refused(checks, node, Scene.POLL_OPEN, -1, Nodes.ARGUMENT);
            refused(checks, node, Scene.POLL_OPEN, 20, Nodes.ARGUMENT);
            refused(checks, node, Scene.POLL_OPEN, 3, Nodes.ARGUMENT);
            refused(checks, node, Scene.POLL_OPEN, node.sampled(Scene.POLL_OPEN, 0), Nodes.STATE);
            refused(checks, node, Scene.POLL_OPEN, node.sampled(Scene.POLL_OPEN, 1), Nodes.STATE);
            refused(checks, node, Scene.POLL_LOST, node.sampled(Scene.POLL_LOST, 0), Nodes.STATE);
        });
    }
}
