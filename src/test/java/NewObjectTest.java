/** Promise 1: what the constructor makes of its arguments, seen through what depends on them. */
public final class NewObjectTest {
    private static final Checks CHECKS = new Checks();

    public static void main(String[] args) {
        int[][] cases = { // k, alpha, betaOne, betaTwo; K, ALPHA, BETA1, BETA2
            {1, 1, 1, 1, 1, 1, 1, 1},
            {10, 10, 20, 40, 10, 10, 20, 40},
            {0, 0, 0, 0, 4, 3, 3, 7},
            {11, 2, 21, 2, 4, 3, 3, 7},
            {-1, 3, -1, 41, 4, 3, 3, 7},
            {4, 2, 2, 1, 4, 3, 2, 6},
            {4, 4, 2, 2, 4, 4, 2, 2},
            {4, 5, 5, 4, 4, 3, 5, 9},
            {5, 2, 20, 41, 5, 3, 20, 24},
            {5, 3, 3, 3, 5, 3, 3, 3},
            {1, 0, 1, 40, 1, 1, 1, 40},
            {1, 2, 1, 0, 1, 1, 1, 5},
            {2, 1, 4, 8, 2, 2, 4, 8},
            {9, -3, 1, 2, 9, 5, 1, 2},
            {Integer.MAX_VALUE, Integer.MAX_VALUE, Integer.MAX_VALUE, Integer.MAX_VALUE, 4, 3, 3, 7},
            {Integer.MIN_VALUE, Integer.MIN_VALUE, Integer.MIN_VALUE, Integer.MIN_VALUE, 4, 3, 3, 7},
        };
        for (int[] c : cases) {
            String name = "new SnowNode(5, " + c[0] + ", " + c[1] + ", " + c[2] + ", " + c[3] + ")";
            CHECKS.same(name + ": K", c[4], sampleSize(new SnowNode(5, c[0], c[1], c[2], c[3])));
            CHECKS.same(name + ": votes", c[4], mostVotes(new SnowNode(5, c[0], c[1], c[2], c[3])));
            CHECKS.same(name + ": ALPHA", c[5], neededYes(new SnowNode(5, c[0], c[1], c[2], c[3])));
            CHECKS.same(name + ": BETA1", c[6], neededRounds(new SnowNode(5, c[0], c[1], c[2], c[3]), 1, c[4]));
            CHECKS.same(name + ": BETA2, rule 0", c[7],
                    neededRounds(new SnowNode(5, c[0], c[1], c[2], c[3]), 0, c[4]));
            CHECKS.same(name + ": BETA2, rule 2", c[7],
                    neededRounds(new SnowNode(5, c[0], c[1], c[2], c[3]), 2, c[4]));
        }
        nothingYet(new SnowNode(0, 4, 3, 3, 7));
        CHECKS.finish("NewObjectTest");
    }

    private static int sampleSize(SnowNode node) {
        Row.under(0).spends(0, 0).pays(1000000).take(node);
        int poll = node.poll();
        int size = 0;
        while (size < 30 && Checks.answerOf(peer(node, poll, size)) instanceof Integer) {
            size++;
        }
        return size;
    }

    private static Checks.Call peer(SnowNode node, int poll, int j) {
        return () -> node.sampled(poll, j);
    }

    private static int mostVotes(SnowNode node) {
        node.begin(0, 0, 2);
        int votes = 0;
        while (votes < 30 && Checks.answerOf(() -> { node.votes(0, 0, 1); return 0; }) instanceof Integer) {
            votes++;
        }
        return votes;
    }

    private static int neededYes(SnowNode node) {
        Row.under(0).spends(0, 0).pays(1000000).take(node);
        int poll = node.poll();
        for (int j = 0; j < 10; j++) {
            if (node.answer(poll, node.sampled(poll, j), true) == 1) {
                return j + 1;
            }
        }
        return -1;
    }

    private static int neededRounds(SnowNode node, int rule, int k) {
        node.begin(0, rule, 2);
        int rounds = 0;
        while (rounds < 100 && node.state(0, 2) == 0) {
            node.votes(0, 1, k);
            node.round(0);
            rounds++;
        }
        return rounds;
    }

    private static void nothingYet(SnowNode node) {
        int[] counts = {1, 0, 1, 1, 0, 0, 0, 0, 0, 0, 8000000};
        for (int what = 0; what < counts.length; what++) {
            CHECKS.same("count(" + what + ") of a new object", counts[what], node.count(what));
        }
        for (int choice = 0; choice < 8; choice++) {
            CHECKS.same("state(" + choice + ", 0) of a new object", -1, node.state(choice, 0));
        }
        int[] looks = {3, 0, 0, 1, 0, 0, 0, 0, 8, 0};
        for (int what = 0; what < looks.length; what++) {
            CHECKS.same("look(0, " + what + ") of a new object", looks[what], node.look(0, what));
        }
        for (int index = 0; index < 8; index++) {
            CHECKS.same("unspent(0, " + index + ")", 1000000, node.unspent(0, index));
            int[] set = {0, -1, -1, 0, -1};
            for (int what = 0; what < set.length; what++) {
                CHECKS.same("set(0, " + index + ", " + what + ")", set[what], node.set(0, index, what));
            }
        }
        CHECKS.same("query(0)", 1, node.query(0));
        CHECKS.same("byteOf(0, 0)", -1, node.byteOf(0, 0));
        CHECKS.same("listed(0, 0)", 0, node.listed(0, 0));
        CHECKS.same("listed(0, 1)", -1, node.listed(0, 1));
        CHECKS.same("listed(1, 0)", 0, node.listed(1, 0));
        CHECKS.same("listed(2, 0)", -1, node.listed(2, 0));
    }
}
