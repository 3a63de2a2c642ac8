// Promises 1 to 4: construction and initial state, getOrder, getFrameLength, getBitCount.
public final class ConstructionTest {
    private static final Check check = new Check();

    public static void main(String[] args) {
        ordersAreClamped();
        frameLengthsAreClampedAndLowered();
        everythingStartsZero();
        shapeNeverChanges();
        check.finish();
    }

    private static void ordersAreClamped() {
        int[] given = {Integer.MIN_VALUE, -1, 0, 1, 2, 3, 4, 5, 6, 7, 8, 1000, Integer.MAX_VALUE};
        int[] due = {2, 2, 2, 2, 2, 3, 4, 5, 6, 6, 6, 6, 6};
        for (int i = 0; i < given.length; i++) {
            CelpSpeechCodec codec = new CelpSpeechCodec(given[i], 16);
            check.due("getOrder() of order " + given[i], codec.getOrder(), due[i]);
            check.due("getBitCount() of order " + given[i], codec.getBitCount(), 4 * due[i] + 28);
            check.due("getFrameLength() beside order " + given[i], codec.getFrameLength(), 16);
        }
    }

    private static void frameLengthsAreClampedAndLowered() {
        int[] given = {Integer.MIN_VALUE, -9, 0, 7, 8, 9, 11, 12, 15, 16, 19, 20, 23, 24, 27, 28, 29, 30, 31, 32,
            33, 36, Integer.MAX_VALUE};
        int[] due = {8, 8, 8, 8, 8, 8, 8, 12, 12, 16, 16, 20, 20, 24, 24, 28, 28, 28, 28, 32, 32, 32, 32};
        for (int i = 0; i < given.length; i++) {
            CelpSpeechCodec codec = new CelpSpeechCodec(3, given[i]);
            check.due("getFrameLength() of length " + given[i], codec.getFrameLength(), due[i]);
            check.due("getOrder() beside length " + given[i], codec.getOrder(), 3);
            check.due("getBitCount() beside length " + given[i], codec.getBitCount(), 40);
            slotsReachTheFrameLength(codec);
        }
    }

    // T is N/4: the greatest slot decodes, the next one does not.
    private static void slotsReachTheFrameLength(CelpSpeechCodec codec) {
        int slots = codec.getFrameLength() / 4;
        int last = (slots - 1) << 9;
        check.due("last slot at N " + codec.getFrameLength(), codec.decodeFrame(0, last, 0, 0), true);
        if (slots < 8) {
            int past = slots << 9;
            check.due("slot T at N " + codec.getFrameLength(), codec.decodeFrame(0, past, 0, 0), false);
        }
    }

    private static void everythingStartsZero() {
        for (int order = 2; order <= 6; order++) {
            for (int length = 8; length <= 32; length += 4) {
                CelpSpeechCodec codec = new CelpSpeechCodec(order, length);
                String name = "new codec " + order + ", " + length;
                check.due(name + " getPending()", codec.getPending(), 0);
                for (int i = 0; i < 70; i++) {
                    check.due(name + " getWord", codec.getWord(i), 0);
                    check.due(name + " getRawReflection", codec.getRawReflection(i), 0);
                    for (int side = 0; side < 2; side++) {
                        check.due(name + " getReflection", codec.getReflection(side, i), 0);
                        check.due(name + " getOutput", codec.getOutput(side, i), 0);
                        check.due(name + " getExcitation", codec.getExcitation(side, i), 0);
                        check.due(name + " getMemory", codec.getMemory(side, i), 0);
                        check.due(name + " getField " + i, codec.getField(side, i), i < 11 + order ? 0 : -1);
                        check.due(name + " getFrameCount", codec.getFrameCount(side), 0);
                    }
                }
            }
        }
    }

    private static void shapeNeverChanges() {
        CelpSpeechCodec codec = new CelpSpeechCodec(5, 22);
        for (int frame = 0; frame < 3; frame++) {
            Check.putRepeated(codec, 1000 * frame - 700, 20);
            codec.encodeFrame();
            Check.decodeOwnWords(codec);
            codec.decodeFrame(-1, -1, -1, -1);
            check.due("getOrder() after frames", codec.getOrder(), 5);
            check.due("getFrameLength() after frames", codec.getFrameLength(), 20);
            check.due("getBitCount() after frames", codec.getBitCount(), 48);
        }
    }
}
