/** Promise 1. */
final class NewObjectTest {
    public static void main(String[] args) {
        BurstValley x = new BurstValley();
        for (int what = 0; what <= 16; what++) {
            Check.due("many(" + what + ")", x.many(what), 0);
        }
        Check.due("again()", x.again(), BurstValley.NONE);
        Check.finish("NewObjectTest");
    }
}
