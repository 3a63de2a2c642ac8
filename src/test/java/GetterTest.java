// Promises 10, 11 and 13 to 16: getReflection, getField, getOutput, getExcitation, getMemory, getFrameCount.
public final class GetterTest {
    private static final int[] LEVELS = {-31130, -29491, -27034, -23757, -19661, -14746, -9011, -3277,
        3277, 9011, 14746, 19661, 23757, 27034, 29491, 31130};
    private static final int[] PULSES = {0, 16, 23, 32, 45, 64, 91, 128, 181, 256, 362, 512, 724, 1024, 1448, 2048};
    private static final int[] FAR = {Integer.MIN_VALUE, Integer.MIN_VALUE + 1, -65536, -64, -17, -2, -1,
        65, 66, 128, 65536, Integer.MAX_VALUE - 1, Integer.MAX_VALUE};
    private static final Check check = new Check();

    public static void main(String[] args) {
        reflectionsAreTableValues();
        pulsesAreTableValues();
        adaptiveGainsAreTableValues();
        fieldsAreThoseOfTheFrame();
        reflectionOfOneSideOnly();
        wrongArguments();
        everythingInsideTheRangesIsShown();
        countsGrowBySuccessOnly();
        check.finish();
    }

    private static void reflectionsAreTableValues() {
        for (int q = 0; q < 16; q++) {
            CelpSpeechCodec codec = new CelpSpeechCodec(6, 8);
            int word = q * 0x1111;
            check.due("decodeFrame", codec.decodeFrame(word, q * 0x1100, 0, 0), true);
            for (int m = 1; m <= 6; m++) {
                check.due("getReflection(1, " + m + ")", codec.getReflection(1, m), LEVELS[q]);
                check.due("getField of q" + m, codec.getField(1, 10 + m), q);
                check.due("getReflection(0, " + m + ")", codec.getReflection(0, m), 0);
            }
        }
    }

    private static void pulsesAreTableValues() {
        for (int gain = 0; gain < 16; gain++) {
            CelpSpeechCodec codec = new CelpSpeechCodec(2, 8);
            check.due("decodeFrame", codec.decodeFrame(0x7700, 0x0101, gain << 12, 0), true);
            check.due("getField of gf", codec.getField(1, CelpSpeechCodec.FIELD_FIXED_GAIN), gain);
            check.due("excitation of track 0", codec.getExcitation(1, 8), PULSES[gain]);
            check.due("excitation of track 1", codec.getExcitation(1, 7), -PULSES[gain]);
            check.due("excitation of track 2", codec.getExcitation(1, 6), PULSES[gain]);
            check.due("excitation of track 3", codec.getExcitation(1, 5), -PULSES[gain]);
            check.due("excitation without pulse", codec.getExcitation(1, 4), 0);
        }
    }

    // The 2048 of the first frame's track 0 comes back 8 samples later, times 37*ga/256.
    private static void adaptiveGainsAreTableValues() {
        int[] due = {0, 296, 592, 888, 1184, 1480, 1776, 2072};
        for (int gain = 0; gain < 8; gain++) {
            CelpSpeechCodec codec = new CelpSpeechCodec(2, 8);
            codec.decodeFrame(0x7700, 0, 0xf000, 0);
            codec.decodeFrame(0x7720 + gain, 0, 0, 0);
            check.due("getField of ga", codec.getField(1, CelpSpeechCodec.FIELD_ADAPTIVE_GAIN), gain);
            check.due("excitation of ga " + gain, codec.getExcitation(1, 8), due[gain]);
        }
    }

    // q1..q4 = 1, 2, 3, 4; lag 21, ga 5; slots 1, 2, 3, 0 and signs 1, 0, 1, 0; gf 11.
    private static void fieldsAreThoseOfTheFrame() {
        CelpSpeechCodec codec = new CelpSpeechCodec(4, 16);
        check.due("decodeFrame", codec.decodeFrame(0x1234, 0xad34, 0x70b0, 0), true);
        int[] due = {21, 5, 11, 1, 2, 3, 0, 1, 0, 1, 0, 1, 2, 3, 4, -1, -1, -1};
        for (int kind = 0; kind < due.length; kind++) {
            check.due("getField(1, " + kind + ")", codec.getField(1, kind), due[kind]);
            check.due("getField(0, " + kind + ")", codec.getField(0, kind), due[kind] < 0 ? -1 : 0);
        }
    }

    private static void reflectionOfOneSideOnly() {
        CelpSpeechCodec codec = new CelpSpeechCodec(3, 8);
        Check.putAll(codec, 10, 20, 30, 40, 50, 60, 70, 80);
        check.due("getReflection(0, 1) before the frame", codec.getReflection(0, 1), 0);
        codec.encodeFrame();
        for (int m = 1; m <= 3; m++) {
            int due = LEVELS[codec.getField(0, 10 + m)];
            check.due("getReflection(0, " + m + ")", codec.getReflection(0, m), due);
            check.due("getReflection(1, " + m + ")", codec.getReflection(1, m), 0);
        }
        check.due("a refused frame", codec.decodeFrame(0, 0xffff, 0xffff, 0), false);
        check.due("getReflection(1, 1) after a refused frame", codec.getReflection(1, 1), 0);
    }

    private static void wrongArguments() {
        CelpSpeechCodec codec = Check.busy(3, 12);
        int[] before = Check.viewOfAll(codec);
        for (int far : FAR) {
            for (int side = 0; side < 2; side++) {
                check.due("getReflection of " + far, codec.getReflection(side, far), 0);
                check.due("getField of " + far, codec.getField(side, far), -1);
                check.due("getOutput of " + far, codec.getOutput(side, far), 0);
                check.due("getExcitation of " + far, codec.getExcitation(side, far), 0);
                check.due("getMemory of " + far, codec.getMemory(side, far), 0);
            }
            wrongSide(codec, far);
        }
        for (int side : new int[] {2, 3, 4}) {
            wrongSide(codec, side);
        }
        check.same("view after wrong arguments", Check.viewOfAll(codec), before);
    }

    private static void wrongSide(CelpSpeechCodec codec, int side) {
        for (int i = -1; i < 66; i++) {
            check.due("getReflection of side " + side, codec.getReflection(side, i), 0);
            check.due("getField of side " + side, codec.getField(side, i), -1);
            check.due("getOutput of side " + side, codec.getOutput(side, i), 0);
            check.due("getExcitation of side " + side, codec.getExcitation(side, i), 0);
            check.due("getMemory of side " + side, codec.getMemory(side, i), 0);
        }
        check.due("getFrameCount of side " + side, codec.getFrameCount(side), 0);
    }

    private static void everythingInsideTheRangesIsShown() {
        for (int order = 2; order <= 6; order++) {
            for (int length = 8; length <= 32; length += 4) {
                CelpSpeechCodec codec = Check.busy(order, length);
                for (int side = 0; side < 2; side++) {
                    edgesOfOneSide(codec, side);
                }
            }
        }
    }

    private static void edgesOfOneSide(CelpSpeechCodec codec, int side) {
        int order = codec.getOrder();
        int length = codec.getFrameLength();
        String name = order + ", " + length + ", side " + side + ": ";
        check.due(name + "o[-1]", codec.getOutput(side, -1), 0);
        check.due(name + "o[N]", codec.getOutput(side, length), 0);
        check.due(name + "b[0] is o[N-1]", codec.getMemory(side, 0), codec.getOutput(side, length - 1));
        check.due(name + "b[-1]", codec.getMemory(side, -1), 0);
        check.due(name + "b[P]", codec.getMemory(side, order), 0);
        check.due(name + "b[P-1] is not 0", codec.getMemory(side, order - 1) != 0, true);
        check.due(name + "X(0)", codec.getExcitation(side, 0), 0);
        check.due(name + "X(65)", codec.getExcitation(side, 65), 0);
        check.due(name + "c0", codec.getReflection(side, 0), 0);
        check.due(name + "cP is not 0", codec.getReflection(side, order) != 0, true);
        check.due(name + "c(P+1)", codec.getReflection(side, order + 1), 0);
        check.due(name + "last kind", codec.getField(side, 10 + order) >= 0, true);
        check.due(name + "kind past the last", codec.getField(side, 11 + order), -1);
        check.due(name + "kind 17", codec.getField(side, 17), -1);
        check.due(name + "kind -1", codec.getField(side, -1), -1);
    }

    private static void countsGrowBySuccessOnly() {
        CelpSpeechCodec codec = new CelpSpeechCodec(2, 8);
        for (int frame = 1; frame <= 50; frame++) {
            codec.encodeFrame();
            check.due("getFrameCount(0) after a refused frame", codec.getFrameCount(0), frame - 1);
            Check.putRepeated(codec, frame * 10, 8);
            check.due("getFrameCount(0) after samples", codec.getFrameCount(0), frame - 1);
            codec.encodeFrame();
            check.due("getFrameCount(0) after a frame", codec.getFrameCount(0), frame);
            check.due("getFrameCount(1) after an encoded frame", codec.getFrameCount(1), 2 * frame - 2);
            codec.decodeFrame(0, 0xffff, 0, 0);
            check.due("getFrameCount(1) after a refused frame", codec.getFrameCount(1), 2 * frame - 2);
            codec.decodeFrame(0, 0, 0, 0);
            codec.decodeFrame(0, 0, 0, 0);
            check.due("getFrameCount(1) after two frames", codec.getFrameCount(1), 2 * frame);
            check.due("getFrameCount(0) after two decoded frames", codec.getFrameCount(0), frame);
        }
    }
}
