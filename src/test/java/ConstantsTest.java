/** The constant of the face. */
public final class ConstantsTest {
    public static void main(String[] args) {
        if (HatchLights.NONE != -1) {
            System.out.println("NONE is " + HatchLights.NONE);
            System.exit(1);
        }
    }
}
