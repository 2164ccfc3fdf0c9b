public final class FaceTest {
    public static void main(String[] args) {
        System.out.println("x");
    }
}
