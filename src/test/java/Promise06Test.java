/** Promise 6, case by case: whom a poll is about, when there is none, and how its sample is drawn. */
public final class Promise06Test {
    public static void main(String[] args) {
        Cases.run(Promise06Test.class);
    }

    private static void about(Checks checks, SnowNode node, int number, Row row) {
        checks.due("poll()", number, () -> node.poll());
        checks.same("whom it is about", row.id(), node.sampled(number, Nodes.NONE));
    }

    private static void none(Checks checks, SnowNode node) {
        checks.due("poll()", Nodes.NOTHING, () -> node.poll());
    }

    // Whom it is about

    static void p06_genesisAlone(Checks checks) {
        SnowNode node = Nodes.quick(1, 1);
        none(checks, node);
        checks.same("count(7)", 0, node.count(7));
    }

    static void p06_waitingAndBadOnesAlone(Checks checks) {
        SnowNode node = Nodes.quick(1, 1);
        Nodes.takeAll(node, Nodes.beside(0, 77), Nodes.spend(0, 1));
        none(checks, node);
        Row held = Nodes.spend(1, 1000000);
        held.take(node);
        about(checks, node, 0, held);
        none(checks, node);
    }

    static void p06_firstOneByTheOrderOfHolding(Checks checks) {
        SnowNode node = Nodes.quick(1, 1);
        Row parent = Nodes.spend(0, 1000000);
        Row child = Nodes.beside(1, parent.id());
        Row other = Nodes.spend(2, 1000000);
        Nodes.takeAll(node, child, other, parent);
        about(checks, node, 0, other);
        about(checks, node, 1, parent);
        about(checks, node, 2, child);
        none(checks, node);
    }

    static void p06_openPollWasAboutIt(Checks checks) {
        SnowNode node = Nodes.quick(1, 1);
        Row row = Nodes.spend(0, 1000000);
        row.take(node);
        about(checks, node, 0, row);
        none(checks, node);
    }

    static void p06_closedPollWasAboutIt(Checks checks) {
        SnowNode node = Nodes.quick(9, 9);
        Nodes.win(node, Nodes.spend(0, 1000000));
        none(checks, node);
        Nodes.lose(node, Nodes.spend(1, 1000000));
        none(checks, node);
        Row expired = Nodes.spend(2, 1000000);
        expired.take(node);
        about(checks, node, 2, expired);
        node.expire(2);
        none(checks, node);
        checks.same("held, and neither accepted nor rejected", Nodes.HELD, node.look(expired.id(), 0));
    }

    static void p06_rejectedOnesArePassedOver(Checks checks) {
        SnowNode node = Nodes.quick(1, 1);
        Row winner = Nodes.spend(0, 1000000);
        Row loser = Nodes.spend(0, 999999, 1);
        Row child = Nodes.beside(1, loser.id());
        Row free = Nodes.spend(2, 1000000);
        Nodes.takeAll(node, winner, loser, child, free);
        about(checks, node, 0, winner);
        Nodes.say(node, 0, true);
        Nodes.state(checks, node, "the loser", Nodes.REJECTED, loser);
        Nodes.state(checks, node, "its child", Nodes.REJECTED, child);
        about(checks, node, 1, free);
        none(checks, node);
        Nodes.spend(0, 999998, 2).take(node);
        none(checks, node);
    }

    // Numbers, and how many are open

    static void p06_numbersGoOnBehindClosedPolls(Checks checks) {
        SnowNode node = Nodes.quick(9, 9);
        for (int i = 0; i < 8; i++) {
            Row row = Nodes.spend(i, 1000000);
            row.take(node);
            about(checks, node, i, row);
            node.expire(i);
            checks.same("count(7)", i + 1, node.count(7));
            checks.same("count(6)", 0, node.count(6));
        }
    }

    /** Eight are held, and six polls about the first of them are open. */
    private static SnowNode sixOpen() {
        SnowNode node = new SnowNode(8, 2, 2, 9, 9);
        for (int i = 0; i < 8; i++) {
            Nodes.spend(i, 1000000).take(node);
        }
        for (int i = 0; i < 6; i++) {
            node.poll();
        }
        return node;
    }

    static void p06_fiveAndSixOpen(Checks checks) {
        SnowNode node = new SnowNode(8, 2, 2, 9, 9);
        for (int i = 0; i < 7; i++) {
            Nodes.spend(i, 1000000).take(node);
        }
        for (int i = 0; i < 6; i++) {
            checks.same("open", i, node.count(6));
            about(checks, node, i, Nodes.spend(i, 1000000));
        }
        checks.same("open at last", 6, node.count(6));
        checks.due("poll() with six open", Nodes.STATE, () -> node.poll());
        checks.same("open behind it", 6, node.count(6));
        checks.same("polls so far", 6, node.count(7));
    }

    static void p06_onePollIsClosedAndAnotherCanBe(Checks checks) {
        for (int way = 0; way < 3; way++) {
            SnowNode node = sixOpen();
            checks.due("poll() with six open", Nodes.STATE, () -> node.poll());
            if (way == 0) {
                node.expire(2);
            } else {
                Nodes.say(node, 2, way == 1);
            }
            about(checks, node, 6, Nodes.spend(6, 1000000));
            checks.due("poll() with six open again", Nodes.STATE, () -> node.poll());
        }
    }

    static void p06_sixOpenAndNoneLeft(Checks checks) {
        SnowNode node = new SnowNode(8, 2, 2, 9, 9);
        for (int i = 0; i < 6; i++) {
            Nodes.spend(i, 1000000).take(node);
            node.poll();
        }
        none(checks, node);
        Nodes.spend(6, 1000000).take(node);
        checks.due("poll() with one left", Nodes.STATE, () -> node.poll());
    }

    // How many peers have a weight

    private static SnowNode withPeers(int k, int peers) {
        SnowNode node = new SnowNode(8, k, k, 1, 1);
        for (int peer = peers; peer < 20; peer++) {
            node.weigh(peer, 0);
        }
        return node;
    }

    static void p06_onePeerTooFew(Checks checks) {
        for (int k = 1; k <= 10; k++) {
            SnowNode node = withPeers(k, k - 1);
            Nodes.spend(0, 1000000).take(node);
            checks.due("poll() of " + (k - 1) + " peers for " + k, Nodes.STATE, () -> node.poll());
            checks.same("count(7)", 0, node.count(7));
            checks.same("count(6)", 0, node.count(6));
        }
    }

    static void p06_asManyPeersAsNeeded(Checks checks) {
        for (int k = 1; k <= 10; k++) {
            SnowNode node = withPeers(k, k);
            Nodes.spend(0, 1000000).take(node);
            checks.due("poll() of " + k + " peers for " + k, 0, () -> node.poll());
            int all = 0;
            for (int j = 0; j < k; j++) {
                all |= 1 << node.sampled(0, j);
            }
            checks.same("all of them are drawn", (1 << k) - 1, all);
        }
    }

    static void p06_onePeerMore(Checks checks) {
        for (int k = 1; k <= 10; k++) {
            SnowNode node = withPeers(k, k + 1);
            Nodes.spend(0, 1000000).take(node);
            checks.due("poll() of " + (k + 1) + " peers for " + k, 0, () -> node.poll());
        }
    }

    static void p06_weightOf1IsAbove0(Checks checks) {
        SnowNode node = withPeers(3, 2);
        Nodes.spend(0, 1000000).take(node);
        checks.due("poll() of two peers", Nodes.STATE, () -> node.poll());
        node.weigh(19, 1);
        checks.due("poll() of three peers", 0, () -> node.poll());
    }

    /** How heavy they are together does not matter. */
    static void p06_heavyPeersAreNoMorePeers(Checks checks) {
        SnowNode node = withPeers(3, 2);
        Nodes.spend(0, 1000000).take(node);
        node.weigh(0, 1000);
        node.weigh(1, 1000);
        checks.due("poll() of two heavy peers", Nodes.STATE, () -> node.poll());
    }

    static void p06_tooFewPeersAndNoneLeft(Checks checks) {
        SnowNode node = withPeers(3, 2);
        none(checks, node);
        Nodes.spend(0, 1000000).take(node);
        checks.due("poll() with one left", Nodes.STATE, () -> node.poll());
    }

    // Nothing is drawn if it throws

    static void p06_nothingIsDrawnWithoutOneLeft(Checks checks) {
        SnowNode node = new SnowNode(8, 10, 10, 1, 1);
        none(checks, node);
        none(checks, node);
        Nodes.spend(0, 1000000).take(node);
        node.poll();
        Draw.same(checks, node, 0, new Draw(8).sample(10));
    }

    static void p06_nothingIsDrawnWithSixOpen(Checks checks) {
        SnowNode node = sixOpen();
        Draw draw = new Draw(8);
        for (int i = 0; i < 6; i++) {
            Draw.same(checks, node, i, draw.sample(2));
        }
        checks.due("poll() with six open", Nodes.STATE, () -> node.poll());
        node.expire(0);
        about(checks, node, 6, Nodes.spend(6, 1000000));
        Draw.same(checks, node, 6, draw.sample(2));
    }

    static void p06_nothingIsDrawnWithTooFewPeers(Checks checks) {
        SnowNode node = withPeers(10, 9);
        Row row = Nodes.spend(0, 1000000);
        row.take(node);
        checks.due("poll() of too few", Nodes.STATE, () -> node.poll());
        for (int peer = 0; peer < 20; peer++) {
            node.weigh(peer, 1);
        }
        about(checks, node, 0, row);
        Draw.same(checks, node, 0, new Draw(8).sample(10));
    }

    static void p06_refusedChangesNothing(Checks checks) {
        Scene.refusedChangesNothing(checks, node -> {
            checks.due("poll() with none left", Nodes.NOTHING, () -> node.poll());
            checks.due("poll() with none left", Nodes.NOTHING, () -> node.poll());
        });
    }

    // How a sample is drawn

    /** The rest r of the first value by 1000 is the weight of those before, or one less than that. */
    static void p06_restAtTheEdgeOfAWeight(Checks checks) {
        for (int seed = 0; seed < 12; seed++) {
            int r = (int) (new Draw(seed).next() % 1000);
            checks.same("weights of " + r, 1, firstOfTwo(seed, r));
            checks.same("weights of " + (r + 1), 0, firstOfTwo(seed, r + 1));
        }
    }

    private static int firstOfTwo(int seed, int weight) {
        SnowNode node = new SnowNode(seed, 1, 1, 1, 1);
        for (int peer = 2; peer < 20; peer++) {
            node.weigh(peer, 0);
        }
        node.weigh(0, weight);
        node.weigh(1, 1000 - weight);
        Nodes.spend(0, 1000000).take(node);
        return node.sampled(node.poll(), 0);
    }

    /** With r 0 the first peer is not drawn if it has no weight. */
    static void p06_restOf0WithFirstPeersOfNoWeight(Checks checks) {
        for (int only : new int[] {0, 1, 19}) {
            SnowNode node = Nodes.quick(1, 1);
            for (int peer = 0; peer < 20; peer++) {
                node.weigh(peer, peer == only ? 1 : 0);
            }
            Nodes.spend(0, 1000000).take(node);
            node.poll();
            checks.same("sampled(0, 0)", only, node.sampled(0, 0));
        }
    }

    /** Without the sign: x is below 0 for some of these. */
    static void p06_valuesWithTheFirstBit(Checks checks) {
        int negative = 0;
        for (int seed = -6; seed < 6; seed++) {
            Draw draw = new Draw(seed);
            draw.next();
            negative += draw.isNegative() ? 1 : 0;
            SnowNode node = new SnowNode(seed, 1, 1, 1, 1);
            Nodes.spend(0, 1000000).take(node);
            Draw.same(checks, node, node.poll(), new Draw(seed).sample(1));
        }
        checks.same("both kinds were there", true, negative > 0 && negative < 12);
    }

    static void p06_peersOfASampleAreDifferent(Checks checks) {
        for (int seed = 0; seed < 6; seed++) {
            SnowNode node = new SnowNode(seed, 10, 10, 1, 1);
            Draw draw = new Draw(seed);
            for (int peer = 0; peer < 20; peer++) {
                draw.weights[peer] = peer == 4 ? 1000 : peer % 3;
                node.weigh(peer, draw.weights[peer]);
            }
            Nodes.spend(0, 1000000).take(node);
            node.poll();
            Draw.same(checks, node, 0, draw.sample(10));
            int all = 0;
            for (int j = 0; j < 10; j++) {
                all |= 1 << node.sampled(0, j);
            }
            checks.same("different peers", 10, Integer.bitCount(all));
        }
    }

    /** Those drawn for one sample are drawn for the next one, too, and the generator goes on. */
    static void p06_eachSampleIsDrawnFromAll(Checks checks) {
        SnowNode node = withPeers(10, 10);
        Draw draw = new Draw(8);
        for (int peer = 10; peer < 20; peer++) {
            draw.weights[peer] = 0;
        }
        for (int poll = 0; poll < 6; poll++) {
            Nodes.spend(poll, 1000000).take(node);
            node.poll();
            Draw.same(checks, node, poll, draw.sample(10));
        }
    }
}
