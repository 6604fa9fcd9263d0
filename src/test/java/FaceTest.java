public final class FaceTest {
    public static void main(String[] args) {
        if (SnowNode.NONE != -1) { System.out.println("NONE"); System.exit(1); }
    }
}
