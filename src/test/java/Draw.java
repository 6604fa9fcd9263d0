import java.util.Arrays;

/** Draws samples as the document's words tell it, beside the class. */
final class Draw {
    final int[] weights = new int[20];
    private long x;

    Draw(int seed) {
        x = seed;
        Arrays.fill(weights, 1);
    }

    /** The generator's next value, of which the rest is taken. */
    long next() {
        x = x * 6364136223846793005L + 1442695040888963407L;
        return x >>> 33;
    }

    boolean isNegative() {
        return x < 0;
    }

    int[] sample(int k) {
        boolean[] drawn = new boolean[20];
        int[] sample = new int[k];
        for (int j = 0; j < k; j++) {
            long sum = 0;
            for (int peer = 0; peer < 20; peer++) {
                sum += drawn[peer] ? 0 : weights[peer];
            }
            long r = next() % sum;
            long soFar = 0;
            int peer = -1;
            while (soFar <= r) {
                peer++;
                soFar += drawn[peer] ? 0 : weights[peer];
            }
            drawn[peer] = true;
            sample[j] = peer;
        }
        return sample;
    }

    static void same(Checks checks, SnowNode node, int poll, int[] want) {
        for (int j = 0; j < want.length; j++) {
            checks.same("sampled(" + poll + ", " + j + ")", want[j], node.sampled(poll, j));
        }
    }
}
