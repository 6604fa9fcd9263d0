import java.util.ArrayList;

/** Promises 2, 6 and 7: weights, which transaction a poll is about, and the samples drawn. */
public final class SampleTest {
    private static final Checks CHECKS = new Checks();
    private static final Class<?> STATE = IllegalStateException.class;
    private static final Class<?> INDEX = IndexOutOfBoundsException.class;
    private static final Class<?> NOTHING = java.util.NoSuchElementException.class;

    public static void main(String[] args) {
        wrongWeights();
        for (int seed : new int[] {0, 1, -1, 77, Integer.MAX_VALUE, Integer.MIN_VALUE}) {
            for (int k = 1; k <= 10; k++) {
                samples(seed, k);
            }
        }
        sampledEdges();
        whatAPollIsAbout();
        tooManyPolls();
        tooFewPeers();
        CHECKS.finish("SampleTest");
    }

    private static Row spendOf(int output) {
        return Row.under(0).spends(0, output).pays(1000000);
    }

    private static void wrongWeights() {
        SnowNode node = new SnowNode(1, 1, 1, 1, 1);
        int[][] right = {{0, 0}, {19, 1000}, {0, 1000}, {19, 0}, {10, 1}};
        int[][] wrong = {{-1, 1}, {20, 1}, {0, -1}, {0, 1001}, {Integer.MAX_VALUE, 1}, {Integer.MIN_VALUE, 1},
            {3, Integer.MAX_VALUE}, {3, Integer.MIN_VALUE}};
        for (int[] c : right) {
            CHECKS.same("weigh(" + c[0] + ", " + c[1] + ")", true, node.weigh(c[0], c[1]));
        }
        for (int[] c : wrong) {
            CHECKS.same("weigh(" + c[0] + ", " + c[1] + ")", false, node.weigh(c[0], c[1]));
        }
        SnowNode heavy = new SnowNode(1, 1, 1, 1, 1);
        for (int peer = 0; peer < 20; peer++) {
            heavy.weigh(peer, peer == 7 ? 5 : 0);
        }
        heavy.weigh(7, 1001);
        heavy.weigh(7, -1);
        spendOf(0).take(heavy);
        CHECKS.same("a weight that was refused changes nothing", 0, heavy.poll());
        CHECKS.same("the one peer with a weight", 7, heavy.sampled(0, 0));
    }

    private static void samples(int seed, int k) {
        SnowNode node = new SnowNode(seed, k, k, 1, 1);
        long x = seed;
        int[] weights = new int[20];
        for (int peer = 0; peer < 20; peer++) {
            weights[peer] = k == 4 ? 1 : (peer * 37 + k * 11) % 7 == 0 ? 0 : (peer * peer * 31 + k) % 1001;
            CHECKS.same("weigh", true, node.weigh(peer, weights[peer]));
        }
        for (int poll = 0; poll < 6; poll++) {
            int id = spendOf(poll).take(node);
            CHECKS.same("poll()", poll, node.poll());
            CHECKS.same("sampled(" + poll + ", NONE)", id, node.sampled(poll, SnowNode.NONE));
            ArrayList<Integer> left = new ArrayList<Integer>();
            for (int peer = 0; peer < 20; peer++) {
                left.add(peer);
            }
            for (int j = 0; j < k; j++) {
                x = x * 6364136223846793005L + 1442695040888963407L;
                long all = 0;
                for (int peer : left) {
                    all += weights[peer];
                }
                long r = (x >>> 33) % all;
                int at = 0;
                long sum = weights[left.get(0)];
                while (sum <= r) {
                    at++;
                    sum += weights[left.get(at)];
                }
                CHECKS.same("seed " + seed + ", k " + k + ": sampled(" + poll + ", " + j + ")",
                        left.get(at), node.sampled(poll, j));
                left.remove(at);
            }
        }
    }

    private static void sampledEdges() {
        SnowNode node = new SnowNode(1, 3, 2, 1, 1);
        CHECKS.due("sampled(0, 0) before a poll", INDEX, () -> node.sampled(0, 0));
        CHECKS.due("sampled(0, NONE) before a poll", INDEX, () -> node.sampled(0, -1));
        spendOf(0).take(node);
        spendOf(1).take(node);
        node.poll();
        for (int j : new int[] {-2, 3, Integer.MAX_VALUE, Integer.MIN_VALUE}) {
            CHECKS.due("sampled(0, " + j + ")", INDEX, () -> node.sampled(0, j));
        }
        for (int poll : new int[] {-1, 1, Integer.MAX_VALUE, Integer.MIN_VALUE}) {
            CHECKS.due("sampled(" + poll + ", 0)", INDEX, () -> node.sampled(poll, 0));
        }
        node.poll();
        node.expire(0);
        CHECKS.due("sampled of a closed poll", INDEX, () -> node.sampled(0, 0));
        CHECKS.due("sampled of a closed poll's ID", INDEX, () -> node.sampled(0, -1));
        CHECKS.due("sampled of the other poll's ID", spendOf(1).id(), () -> node.sampled(1, -1));
    }

    private static void whatAPollIsAbout() {
        SnowNode node = new SnowNode(1, 1, 1, 1, 1);
        CHECKS.due("poll() with the genesis alone", NOTHING, () -> node.poll());
        Row first = spendOf(0);
        Row child = Row.under(first.id()).spends(first.id(), 0).pays(1000000);
        child.take(node);
        Row.under(0).spends(0, 9).pays(1).take(node);
        CHECKS.due("poll() with one waiting and one bad", NOTHING, () -> node.poll());
        first.take(node);
        CHECKS.due("poll() in the order of holding", 0, () -> node.poll());
        CHECKS.same("it is about the parent", first.id(), node.sampled(0, -1));
        CHECKS.due("the next poll()", 1, () -> node.poll());
        CHECKS.same("it is about the child", child.id(), node.sampled(1, -1));
        CHECKS.due("poll() when all had one", NOTHING, () -> node.poll());
        node.expire(0);
        node.expire(1);
        CHECKS.due("poll() is not about one twice", NOTHING, () -> node.poll());
    }

    private static void tooManyPolls() {
        SnowNode node = new SnowNode(1, 2, 2, 1, 1);
        for (int i = 0; i < 6; i++) {
            spendOf(i).take(node);
            node.poll();
        }
        CHECKS.due("poll() with none left and six open", NOTHING, () -> node.poll());
        int id = spendOf(6).take(node);
        CHECKS.due("poll() with six open", STATE, () -> node.poll());
        CHECKS.same("polls so far", 6, node.count(7));
        CHECKS.same("polls open", 6, node.count(6));
        node.expire(3);
        CHECKS.due("poll() with five open", 6, () -> node.poll());
        CHECKS.same("it is about the seventh", id, node.sampled(6, -1));
    }

    private static void tooFewPeers() {
        SnowNode node = new SnowNode(9, 3, 2, 1, 1);
        SnowNode plain = new SnowNode(9, 3, 2, 1, 1);
        for (int peer = 2; peer < 20; peer++) {
            node.weigh(peer, 0);
        }
        CHECKS.due("poll() with none and too few peers", NOTHING, () -> node.poll());
        spendOf(0).take(node);
        spendOf(0).take(plain);
        CHECKS.due("poll() with two peers for three", STATE, () -> node.poll());
        CHECKS.same("no poll so far", 0, node.count(7));
        node.weigh(19, 1000);
        CHECKS.due("poll() with three peers for three", 0, () -> node.poll());
        int sum = node.sampled(0, 0) + node.sampled(0, 1) + node.sampled(0, 2);
        CHECKS.same("all three are of the sample", 20, sum);
        SnowNode again = new SnowNode(9, 3, 2, 1, 1);
        spendOf(0).take(again);
        for (int peer = 2; peer < 20; peer++) {
            again.weigh(peer, 0);
        }
        CHECKS.due("poll() that throws", STATE, () -> again.poll());
        for (int peer = 2; peer < 20; peer++) {
            again.weigh(peer, 1);
        }
        again.poll();
        plain.poll();
        for (int j = 0; j < 3; j++) {
            CHECKS.same("nothing was drawn, peer " + j, plain.sampled(0, j), again.sampled(0, j));
        }
    }
}
