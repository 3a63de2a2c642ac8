// The boundary cases of promises 1 to 4, a test for each sentence.
public final class ShapeBoundaryTest {
    private static final int[] EDGES = {Integer.MIN_VALUE, Integer.MIN_VALUE + 1, -32, -6, -1, 0, 1, 2, 3, 5, 6, 7, 8,
        9, 31, 32, 33, 36, Integer.MAX_VALUE - 1, Integer.MAX_VALUE};
    private static final Check check = new Check();

    public static void main(String[] args) {
        check.sentence("1: accepts any int values", ShapeBoundaryTest::anyIntsMakeACodec);
        check.sentence("1: order below 2 becomes 2", ShapeBoundaryTest::smallOrders);
        check.sentence("1: order above 6 becomes 6", ShapeBoundaryTest::greatOrders);
        check.sentence("1: order inside [2,6] gives P", ShapeBoundaryTest::fittingOrders);
        check.sentence("1: frameLength below 8 becomes 8", ShapeBoundaryTest::smallLengths);
        check.sentence("1: frameLength above 32 becomes 32", ShapeBoundaryTest::greatLengths);
        check.sentence("1: then lowered to a multiple of 4 (v - v%4)", ShapeBoundaryTest::lengthsBetween);
        check.sentence("1: N is one of 8, 12, 16, 20, 24, 28, 32", ShapeBoundaryTest::frameHoldsItsLength);
        check.sentence("1: T is 2..8", ShapeBoundaryTest::slotsReachTheFrameLength);
        check.sentence("1: P and N never change afterwards", ShapeBoundaryTest::shapeStays);
        check.sentence("1: no pending samples and no frames", ShapeBoundaryTest::startsEmpty);
        check.sentence("1: every memory cell, history value, output sample, field, raw reflection coefficient and word"
            + " is 0", ShapeBoundaryTest::startsZero);
        check.sentence("1: all state starts zero, whatever other objects did", ShapeBoundaryTest::startsZeroBesideOthers);
        check.sentence("1: all state starts zero: the first frame finds no past", ShapeBoundaryTest::firstFrameHasNoPast);
        check.sentence("2: getOrder() answers a value in 2..6", ShapeBoundaryTest::orderStaysInRange);
        check.sentence("2: getOrder() changes nothing", ShapeBoundaryTest::askingOrderChangesNothing);
        check.sentence("3: getFrameLength() answers a multiple of 4 in 8..32", ShapeBoundaryTest::lengthStaysInRange);
        check.sentence("3: getFrameLength() changes nothing", ShapeBoundaryTest::askingLengthChangesNothing);
        check.sentence("4: getBitCount() answers 4P+28, a value in 36..52", ShapeBoundaryTest::bitCountsOfAllOrders);
        check.sentence("4: getBitCount() changes nothing", ShapeBoundaryTest::askingBitsChangesNothing);
        check.finish();
    }

    private static void anyIntsMakeACodec() {
        for (int order : EDGES) {
            for (int length : EDGES) {
                CelpSpeechCodec codec = new CelpSpeechCodec(order, length);
                String name = "codec " + order + ", " + length;
                Check.putRepeated(codec, 700, codec.getFrameLength() - 1);
                check.due(name + " takes its last sample", codec.putSample(-700), true);
                check.due(name + " encodes", codec.encodeFrame(), true);
                check.due(name + " decodes", Check.decodeOwnWords(codec), true);
            }
        }
    }

    private static void smallOrders() {
        for (int order : new int[] {1, 0, -1, -2, -6, -65534, Integer.MIN_VALUE + 1, Integer.MIN_VALUE}) {
            check.due("order " + order, new CelpSpeechCodec(order, 16).getOrder(), 2);
        }
        check.due("kinds of order 1", new CelpSpeechCodec(1, 16).getField(0, 13), -1);
    }

    private static void greatOrders() {
        for (int order : new int[] {7, 8, 12, 65538, Integer.MAX_VALUE - 1, Integer.MAX_VALUE}) {
            check.due("order " + order, new CelpSpeechCodec(order, 16).getOrder(), 6);
        }
        check.due("kinds of order 7", new CelpSpeechCodec(7, 16).getField(0, 17), -1);
    }

    private static void fittingOrders() {
        for (int order = 2; order <= 6; order++) {
            check.due("order " + order, new CelpSpeechCodec(order, 16).getOrder(), order);
        }
    }

    private static void smallLengths() {
        for (int length : new int[] {7, 4, 3, 0, -1, -4, -8, -32, -65528, Integer.MIN_VALUE + 1, Integer.MIN_VALUE}) {
            check.due("length " + length, new CelpSpeechCodec(3, length).getFrameLength(), 8);
        }
    }

    private static void greatLengths() {
        for (int length : new int[] {33, 35, 36, 64, 65544, Integer.MAX_VALUE - 1, Integer.MAX_VALUE}) {
            check.due("length " + length, new CelpSpeechCodec(3, length).getFrameLength(), 32);
        }
    }

    private static void lengthsBetween() {
        int[] due = {8, 8, 8, 8, 12, 12, 12, 12, 16, 16, 16, 16, 20, 20, 20, 20, 24, 24, 24, 24, 28, 28, 28, 28, 32};
        for (int length = 8; length <= 32; length++) {
            check.due("length " + length, new CelpSpeechCodec(3, length).getFrameLength(), due[length - 8]);
        }
    }

    private static void frameHoldsItsLength() {
        for (int length = 8; length <= 32; length++) {
            CelpSpeechCodec codec = new CelpSpeechCodec(2, length);
            int held = 0;
            while (held < 40 && codec.putSample(1)) {
                held++;
            }
            check.due("samples held at length " + length, held, length / 4 * 4);
        }
    }

    // The sample in the last place of all draws track 3 to its last slot, T-1.
    private static void slotsReachTheFrameLength() {
        for (int length = 8; length <= 32; length += 4) {
            CelpSpeechCodec codec = new CelpSpeechCodec(2, length);
            Check.putRepeated(codec, 0, length - 1);
            codec.putSample(2000);
            codec.encodeFrame();
            int slots = length / 4;
            check.due("encoder's last slot at length " + length, codec.getField(0, 6), slots - 1);
            check.due("decoder's last slot at length " + length, codec.decodeFrame(0, (slots - 1) << 13, 0, 0), true);
            check.due("slot T at length " + length, codec.decodeFrame(0, slots << 13, 0, 0), slots == 8);
        }
    }

    private static void shapeStays() {
        CelpSpeechCodec codec = new CelpSpeechCodec(5, 22);
        for (int step = 0; step < 70; step++) {
            codec.putSample(300 * step - 9000);
            codec.encodeFrame();
            codec.decodeFrame(step * 1111, step, -step, step * 77);
            codec.decodeFrame(-1, -1, -1, -1);
            check.due("getOrder() after step " + step, codec.getOrder(), 5);
            check.due("getFrameLength() after step " + step, codec.getFrameLength(), 20);
            check.due("getBitCount() after step " + step, codec.getBitCount(), 48);
        }
    }

    private static void startsEmpty() {
        CelpSpeechCodec codec = new CelpSpeechCodec(4, 16);
        check.due("getPending()", codec.getPending(), 0);
        check.due("getFrameCount(0)", codec.getFrameCount(0), 0);
        check.due("getFrameCount(1)", codec.getFrameCount(1), 0);
        check.due("encodeFrame()", codec.encodeFrame(), false);
    }

    private static void startsZero() {
        for (int order = 2; order <= 6; order++) {
            for (int length = 8; length <= 32; length += 4) {
                zeroEverywhere(new CelpSpeechCodec(order, length));
            }
        }
    }

    private static void zeroEverywhere(CelpSpeechCodec codec) {
        String name = "new codec " + codec.getOrder() + ", " + codec.getFrameLength() + ": ";
        for (int i = 0; i <= 64; i++) {
            check.due(name + "getWord(" + i + ")", codec.getWord(i), 0);
            check.due(name + "getRawReflection(" + i + ")", codec.getRawReflection(i), 0);
            for (int side = 0; side < 2; side++) {
                String at = "(" + side + ", " + i + ")";
                check.due(name + "getReflection" + at, codec.getReflection(side, i), 0);
                check.due(name + "getOutput" + at, codec.getOutput(side, i), 0);
                check.due(name + "getExcitation" + at, codec.getExcitation(side, i), 0);
                check.due(name + "getMemory" + at, codec.getMemory(side, i), 0);
                check.due(name + "getField" + at, codec.getField(side, i), i < 11 + codec.getOrder() ? 0 : -1);
            }
        }
    }

    private static void startsZeroBesideOthers() {
        CelpSpeechCodec busy = Check.busy(6, 32);
        CelpSpeechCodec fresh = new CelpSpeechCodec(6, 32);
        zeroEverywhere(fresh);
        check.due("getPending() beside a busy codec", fresh.getPending(), 0);
        check.due("getFrameCount(0) beside a busy codec", fresh.getFrameCount(0), 0);
        int[] before = Check.viewOfAll(busy);
        Check.putRepeated(fresh, 9000, 32);
        fresh.encodeFrame();
        Check.decodeOwnWords(fresh);
        check.same("a busy codec beside a new one", Check.viewOfAll(busy), before);
    }

    // The greatest adaptive gain over every lag adds nothing to the pulses at tracks 0 to 3.
    private static void firstFrameHasNoPast() {
        for (int lag = 0; lag < 32; lag++) {
            CelpSpeechCodec codec = new CelpSpeechCodec(2, 8);
            codec.decodeFrame(0x8800 | lag << 3 | 7, 0, 0x9000, 0);
            String name = "lag index " + lag;
            check.excitation(name, codec, 1, 0, 0, 0, 0, 256, 256, 256, 256, 0, 0);
            check.due(name + ": first output", codec.getOutput(1, 0), 256);
        }
    }

    private static void orderStaysInRange() {
        for (int order : EDGES) {
            int answer = new CelpSpeechCodec(order, 8).getOrder();
            check.due("getOrder() of " + order + " in range", answer >= 2 && answer <= 6, true);
        }
    }

    private static void lengthStaysInRange() {
        for (int length : EDGES) {
            int answer = new CelpSpeechCodec(2, length).getFrameLength();
            check.due("getFrameLength() of " + length, answer >= 8 && answer <= 32 && answer % 4 == 0, true);
        }
    }

    private static void bitCountsOfAllOrders() {
        int[] orders = {Integer.MIN_VALUE, 1, 2, 3, 4, 5, 6, 7, Integer.MAX_VALUE};
        int[] due = {36, 36, 36, 40, 44, 48, 52, 52, 52};
        for (int i = 0; i < orders.length; i++) {
            check.due("getBitCount() of " + orders[i], new CelpSpeechCodec(orders[i], 8).getBitCount(), due[i]);
        }
    }

    private static void askingOrderChangesNothing() {
        check.changesNothing("getOrder()", () -> Check.busy(3, 12), codec -> {
            check.due("getOrder()", codec.getOrder(), 3);
            check.due("getOrder() again", codec.getOrder(), 3);
        });
    }

    private static void askingLengthChangesNothing() {
        check.changesNothing("getFrameLength()", () -> Check.busy(3, 12), codec -> {
            check.due("getFrameLength()", codec.getFrameLength(), 12);
            check.due("getFrameLength() again", codec.getFrameLength(), 12);
        });
    }

    private static void askingBitsChangesNothing() {
        check.changesNothing("getBitCount()", () -> Check.busy(3, 12), codec -> {
            check.due("getBitCount()", codec.getBitCount(), 40);
            check.due("getBitCount() again", codec.getBitCount(), 40);
        });
    }
}
