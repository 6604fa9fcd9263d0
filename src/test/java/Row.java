import java.io.ByteArrayOutputStream;
import java.security.MessageDigest;
import java.security.NoSuchAlgorithmException;

/** Builds the bytes of a transaction, right ones and wrong ones. */
final class Row {
    private int[] parents = {};
    private int[] inputs = {};
    private int[] outputs = {};

    static Row under(int... parents) {
        Row row = new Row();
        row.parents = parents;
        return row;
    }

    /** Pairs of ID and index. */
    Row spends(int... idsAndIndexes) {
        inputs = idsAndIndexes;
        return this;
    }

    Row pays(int... amounts) {
        outputs = amounts;
        return this;
    }

    byte[] bytes() {
        ByteArrayOutputStream out = new ByteArrayOutputStream();
        out.write(parents.length);
        for (int parent : parents) {
            word(out, parent);
        }
        out.write(inputs.length / 2);
        for (int i = 0; i + 1 < inputs.length; i += 2) {
            word(out, inputs[i]);
            out.write(inputs[i + 1]);
        }
        out.write(outputs.length);
        for (int amount : outputs) {
            word(out, amount);
        }
        return out.toByteArray();
    }

    int id() {
        return idOf(bytes());
    }

    int take(SnowNode node) {
        byte[] bytes = bytes();
        feed(node, bytes);
        return node.take(bytes.length);
    }

    static int idOf(byte[] bytes) {
        byte[] hash = hashOf(bytes);
        return (hash[0] & 127) << 24 | (hash[1] & 255) << 16 | (hash[2] & 255) << 8 | hash[3] & 255;
    }

    /** The bit of the hash that no ID has. */
    static boolean firstBit(byte[] bytes) {
        return hashOf(bytes)[0] < 0;
    }

    private static byte[] hashOf(byte[] bytes) {
        try {
            return MessageDigest.getInstance("SHA-256").digest(bytes);
        } catch (NoSuchAlgorithmException e) {
            throw new AssertionError(e);
        }
    }

    static int[] words(byte[] bytes) {
        int[] words = new int[(bytes.length + 3) / 4];
        for (int i = 0; i < bytes.length; i++) {
            words[i / 4] |= (bytes[i] & 255) << 24 - i % 4 * 8;
        }
        return words;
    }

    static void feed(SnowNode node, byte[] bytes) {
        for (int word : words(bytes)) {
            node.feed(word);
        }
    }

    private static void word(ByteArrayOutputStream out, int value) {
        for (int shift = 24; shift >= 0; shift -= 8) {
            out.write(value >>> shift);
        }
    }
}
