/** Promise 2, case by case: which peers and weights there are, and what a refused weight leaves. */
public final class Promise02Test {
    public static void main(String[] args) {
        Cases.run(Promise02Test.class);
    }

    private static final int[] WRONG_PEERS = {-1, 20, -20, 21, Nodes.MIN, Nodes.MAX};
    private static final int[] WRONG_WEIGHTS = {-1, 1001, -1000, 1002, Nodes.MIN, Nodes.MAX};

    /** A sample of ten shows the weights; the class and the words of the document draw alike. */
    private static void drawnAlike(Checks checks, SnowNode node, Draw draw) {
        for (int output = 0; output < 4; output++) {
            Nodes.spend(output, 1000000).take(node);
            Draw.same(checks, node, node.poll(), draw.sample(10));
        }
    }

    private static SnowNode ten() {
        return new SnowNode(21, 10, 10, 1, 1);
    }

    private static void weighed(Checks checks, int peer, int weight) {
        SnowNode node = ten();
        Draw draw = new Draw(21);
        checks.same("weigh(" + peer + ", " + weight + ")", true, node.weigh(peer, weight));
        draw.weights[peer] = weight;
        drawnAlike(checks, node, draw);
    }

    static void p02_peerBelow0(Checks checks) {
        checks.same("weigh(-1, 1)", false, ten().weigh(-1, 1));
        checks.same("weigh(-20, 1)", false, ten().weigh(-20, 1));
        checks.same("weigh(min, 1)", false, ten().weigh(Nodes.MIN, 1));
    }

    static void p02_peer0(Checks checks) {
        weighed(checks, 0, 30);
        weighed(checks, 1, 30);
    }

    static void p02_peer19(Checks checks) {
        weighed(checks, 18, 30);
        weighed(checks, 19, 30);
    }

    static void p02_peer20(Checks checks) {
        checks.same("weigh(20, 1)", false, ten().weigh(20, 1));
        checks.same("weigh(21, 1)", false, ten().weigh(21, 1));
        checks.same("weigh(max, 1)", false, ten().weigh(Nodes.MAX, 1));
    }

    static void p02_weightBelow0(Checks checks) {
        checks.same("weigh(0, -1)", false, ten().weigh(0, -1));
        checks.same("weigh(0, min)", false, ten().weigh(0, Nodes.MIN));
    }

    static void p02_weight0(Checks checks) {
        weighed(checks, 0, 0);
        weighed(checks, 7, 0);
        weighed(checks, 19, 0);
        weighed(checks, 7, 1);
    }

    static void p02_weight1000(Checks checks) {
        weighed(checks, 7, 999);
        weighed(checks, 7, 1000);
    }

    static void p02_weightAbove1000(Checks checks) {
        checks.same("weigh(0, 1001)", false, ten().weigh(0, 1001));
        checks.same("weigh(0, 1002)", false, ten().weigh(0, 1002));
        checks.same("weigh(0, max)", false, ten().weigh(0, Nodes.MAX));
    }

    static void p02_noPeerAndNoWeight(Checks checks) {
        for (int peer : WRONG_PEERS) {
            for (int weight : WRONG_WEIGHTS) {
                checks.same("weigh(" + peer + ", " + weight + ")", false, ten().weigh(peer, weight));
            }
        }
    }

    static void p02_weightsAre1AtFirst(Checks checks) {
        drawnAlike(checks, ten(), new Draw(21));
    }

    static void p02_allPeersOfTheHighestWeight(Checks checks) {
        SnowNode node = ten();
        Draw draw = new Draw(21);
        for (int peer = 0; peer < 20; peer++) {
            checks.same("weigh(" + peer + ", 1000)", true, node.weigh(peer, 1000));
            draw.weights[peer] = 1000;
        }
        drawnAlike(checks, node, draw);
    }

    static void p02_weightIsChangedAgain(Checks checks) {
        SnowNode node = ten();
        Draw draw = new Draw(21);
        for (int weight : new int[] {1000, 0, 17}) {
            checks.same("weigh(4, " + weight + ")", true, node.weigh(4, weight));
            checks.same("weigh(4, " + weight + ") again", true, node.weigh(4, weight));
        }
        draw.weights[4] = 17;
        drawnAlike(checks, node, draw);
    }

    static void p02_refusedWeightLeavesTheOldOne(Checks checks) {
        SnowNode node = ten();
        Draw draw = new Draw(21);
        for (int peer = 0; peer < 20; peer++) {
            node.weigh(peer, 3 * peer);
            draw.weights[peer] = 3 * peer;
        }
        for (int weight : WRONG_WEIGHTS) {
            for (int peer = 0; peer < 20; peer++) {
                checks.same("weigh(" + peer + ", " + weight + ")", false, node.weigh(peer, weight));
            }
        }
        drawnAlike(checks, node, draw);
    }

    static void p02_refusedPeerLeavesTheOthers(Checks checks) {
        SnowNode node = ten();
        for (int peer : WRONG_PEERS) {
            checks.same("weigh(" + peer + ", 500)", false, node.weigh(peer, 500));
        }
        drawnAlike(checks, node, new Draw(21));
    }

    static void p02_openPollKeepsItsSample(Checks checks) {
        SnowNode node = ten();
        Nodes.spend(0, 1000000).take(node);
        int poll = node.poll();
        int[] sample = new Draw(21).sample(10);
        node.weigh(sample[0], 0);
        node.weigh(sample[9], 1000);
        Draw.same(checks, node, poll, sample);
    }

    static void p02_refusedChangesNothing(Checks checks) {
        Scene.refusedChangesNothing(checks, node -> {
            checks.same("weigh(-1, 1)", false, node.weigh(-1, 1));
            checks.same("weigh(20, 1)", false, node.weigh(20, 1));
            checks.same("weigh(0, -1)", false, node.weigh(0, -1));
            checks.same("weigh(0, 1001)", false, node.weigh(0, 1001));
        });
    }
}
