// Promises 7, 8 and 9: encodeFrame, getWord, getRawReflection.
public final class EncodeTest {
    private static final Check check = new Check();

    public static void main(String[] args) {
        frameNeedsAllSamples();
        silenceTakesFirstCandidates();
        shortFrameWorkedByHand();
        framesWorkedElsewhere();
        wordsHoldTheFields();
        decoderSideStays();
        wordsAndRawOutOfRange();
        check.finish();
    }

    private static void frameNeedsAllSamples() {
        CelpSpeechCodec codec = new CelpSpeechCodec(3, 8);
        for (int n = 0; n < 8; n++) {
            int[] before = Check.viewOfAll(codec);
            check.due("encodeFrame() with " + n + " samples", codec.encodeFrame(), false);
            check.same("view after a refused frame", Check.viewOfAll(codec), before);
            codec.putSample(100 * n - 250);
        }
        CelpSpeechCodec due = new CelpSpeechCodec(3, 8);
        for (int n = 0; n < 8; n++) {
            due.putSample(100 * n - 250);
        }
        check.due("encodeFrame() with all samples", codec.encodeFrame(), true);
        check.due("encodeFrame() of the other", due.encodeFrame(), true);
        check.same("frame after refused calls", Check.viewOfAll(codec), Check.viewOfAll(due));
        check.due("getPending() after the frame", codec.getPending(), 0);
        check.due("encodeFrame() right again", codec.encodeFrame(), false);
        check.due("getFrameCount(0)", codec.getFrameCount(0), 1);
    }

    // R[0] is 0, so every k is 0, as far from -3277 as from 3277: the lower index 7 is due.
    private static void silenceTakesFirstCandidates() {
        int[] firstWords = {0x7700, 0x7770, 0x7777, 0x7777, 0x7777};
        int[] secondWords = {0, 0, 0, 0x7000, 0x7700};
        for (int order = 2; order <= 6; order++) {
            CelpSpeechCodec codec = new CelpSpeechCodec(order, 20);
            for (int frame = 1; frame <= 2; frame++) {
                Check.putRepeated(codec, 0, 20);
                check.due("encodeFrame() of silence", codec.encodeFrame(), true);
                check.due("getWord(0) of silence", codec.getWord(0), firstWords[order - 2]);
                check.due("getWord(1) of silence", codec.getWord(1), secondWords[order - 2]);
                check.due("getWord(2) of silence", codec.getWord(2), 0);
                check.due("getWord(3) of silence", codec.getWord(3), 0);
                check.due("getFrameCount(0)", codec.getFrameCount(0), frame);
                for (int m = 1; m <= order; m++) {
                    check.due("getRawReflection of silence", codec.getRawReflection(m), 0);
                    check.due("getReflection of silence", codec.getReflection(0, m), -3277);
                }
                for (int n = 0; n < 20; n++) {
                    check.due("getOutput of silence", codec.getOutput(0, n), 0);
                }
            }
        }
    }

    // One sample of 1000: R = 1000000, 0, 0, so k1 = k2 = 0; a frame with two equal
    // neighbours of 1000: R = 2000000, 1000000, 0, den = 2015626, r = 32512, 16256, 0,
    // k1 = -(16256*32768/32512) = -16384, E = 32512*(2^30-2^28) >> 30 = 24384,
    // acc = -16384*16256 = -266338304, k2 = 266338304/24384 = 10922.
    private static void shortFrameWorkedByHand() {
        CelpSpeechCodec codec = new CelpSpeechCodec(2, 8);
        Check.putAll(codec, 0, 0, 1000, 0, 0, 0, 0, 0);
        codec.encodeFrame();
        check.due("k1 of one sample", codec.getRawReflection(1), 0);
        check.due("k2 of one sample", codec.getRawReflection(2), 0);
        Check.putAll(codec, 0, 0, 1000, 1000, 0, 0, 0, 0);
        codec.encodeFrame();
        check.due("k1 of two samples", codec.getRawReflection(1), -16384);
        check.due("k2 of two samples", codec.getRawReflection(2), 10922);
        check.due("q1 of two samples", codec.getField(0, CelpSpeechCodec.FIELD_K1), 5);
        check.due("q2 of two samples", codec.getField(0, CelpSpeechCodec.FIELD_K1 + 1), 9);
    }

    // Made by a program written apart from this one, in another language. In each row: order,
    // length, amplitude, seed, frame; W0..W3; k1, kP; the last output, X(64), b[P-1].
    private static void framesWorkedElsewhere() {
        int[][] rows = {
            {2, 8, 2000, 1, 0, 30720, 8992, 53248, 0, -6000, 3344, 188, 0, 781},
            {2, 8, 2000, 1, 1, 13847, 513, 53248, 0, -23922, -7468, 2539, 0, -122},
            {2, 8, 2000, 1, 2, 9991, 545, 49152, 0, -27276, -1696, 5097, 0, 582},
            {2, 8, 2000, 1, 3, 18789, 816, 57344, 0, -21244, 7844, -644, 0, -1563},
            {3, 12, 32768, 2, 0, 22144, 544, 3840, 0, -12009, 4123, 208, 0, 437},
            {3, 12, 32768, 2, 1, 22646, 29713, 12032, 0, -13429, -3982, 909, 0, 3850},
            {3, 12, 32768, 2, 2, 27504, 61441, 7936, 0, -10437, -1243, 8177, 0, 12},
            {3, 12, 32768, 2, 3, 30580, 28752, 20224, 0, -2298, -5381, 6632, 0, -2278},
            {4, 16, 500, 3, 0, 6008, 53, 5008, 0, -28894, 5971, -434, 0, -99},
            {4, 16, 500, 3, 1, 18070, 98, 17568, 0, -20866, -6384, 207, 0, 459},
            {4, 16, 500, 3, 2, 14213, 23830, 4272, 0, -23796, -12162, 693, 0, -187},
            {4, 16, 500, 3, 3, 9865, 85, 13728, 0, -26503, 7649, -566, 0, -165},
            {5, 20, 8000, 4, 0, 18554, 28678, 25679, 0, -21470, -4971, -1001, 0, 808},
            {5, 20, 8000, 4, 1, 14199, 25334, 25743, 0, -22517, -6269, 8958, 0, 500},
            {5, 20, 8000, 4, 2, 10376, 28681, 38783, 0, -26096, -1956, -4509, 0, 453},
            {5, 20, 8000, 4, 3, 14710, 29297, 6447, 0, -23225, -2836, -8443, 0, -222},
            {6, 32, 3000, 5, 0, 10375, 30720, 8194, 61440, -28197, 3149, 10, 0, 15},
            {6, 32, 3000, 5, 1, 18568, 35015, 47979, 61440, -20053, 2956, 2704, 0, 325},
            {6, 32, 3000, 5, 2, 9863, 34595, 63697, 61440, -26562, -16, 823, 2072, -20},
            {6, 32, 3000, 5, 3, 10871, 34767, 61908, 61440, -27123, -5723, -2080, 0, -950},
            {6, 28, 32768, 6, 0, 18806, 30720, 68, 61440, -18858, 5014, 149, 0, 246},
            {6, 28, 32768, 6, 1, 14456, 35015, 15281, 61440, -22931, 755, -611, 0, -1919},
            {6, 28, 32768, 6, 2, 13960, 30495, 31125, 61440, -21872, -948, -2522, 0, -2093},
            {6, 28, 32768, 6, 3, 10327, 34816, 8192, 61440, -27696, 5475, 442, 0, 177},
            {2, 24, 100, 7, 0, 10240, 47945, 28672, 0, -27094, 5563, -216, 0, -96},
            {2, 24, 100, 7, 1, 6161, 4626, 24576, 0, -29378, 4101, -69, 0, -17},
            {2, 24, 100, 7, 2, 18867, 34914, 20480, 0, -20865, 8694, -18, 0, -8},
            {2, 24, 100, 7, 3, 9847, 2138, 24576, 0, -27670, -6432, 207, -18, -40},
        };
        CelpSpeechCodec codec = null;
        int random = 0;
        int sample = 0;
        for (int[] row : rows) {
            if (row[4] == 0) {
                codec = new CelpSpeechCodec(row[0], row[1]);
                random = row[3];
                sample = 0;
            }
            for (int n = 0; n < row[1]; n++) {
                random = (random * 1103515245 + 12345) & 0x7fffffff;
                int step = (random >> 8) % (2 * row[2]) - row[2];
                sample = Math.max(-32768, Math.min(32767, Math.floorDiv(sample * 7, 8) + step));
                codec.putSample(sample);
            }
            String name = "order " + row[0] + ", length " + row[1] + ", frame " + row[4] + ": ";
            check.due(name + "encodeFrame()", codec.encodeFrame(), true);
            for (int i = 0; i < 4; i++) {
                check.due(name + "getWord(" + i + ")", codec.getWord(i), row[5 + i]);
            }
            check.due(name + "k1", codec.getRawReflection(1), row[9]);
            check.due(name + "kP", codec.getRawReflection(row[0]), row[10]);
            check.due(name + "last output", codec.getOutput(0, row[1] - 1), row[11]);
            check.due(name + "X(64)", codec.getExcitation(0, 64), row[12]);
            check.due(name + "b[P-1]", codec.getMemory(0, row[0] - 1), row[13]);
        }
    }

    private static void wordsHoldTheFields() {
        for (int order = 2; order <= 6; order++) {
            for (int length = 8; length <= 32; length += 4) {
                CelpSpeechCodec codec = new CelpSpeechCodec(order, length);
                for (int frame = 0; frame < 6; frame++) {
                    for (int n = 0; n < length; n++) {
                        codec.putSample((n * 7919 + frame * 104729) % 6007 - 3003);
                    }
                    codec.encodeFrame();
                    fieldsAreInTheWords(codec);
                }
            }
        }
    }

    private static void fieldsAreInTheWords(CelpSpeechCodec codec) {
        StringBuilder due = new StringBuilder();
        for (int m = 1; m <= codec.getOrder(); m++) {
            appendBits(due, codec.getField(0, 10 + m), 4);
        }
        appendBits(due, codec.getField(0, 0), 5);
        appendBits(due, codec.getField(0, 1), 3);
        for (int t = 0; t < 4; t++) {
            int slot = codec.getField(0, 3 + t);
            check.due("slot below T", slot >= 0 && slot < codec.getFrameLength() / 4, true);
            appendBits(due, slot, 3);
            appendBits(due, codec.getField(0, 7 + t), 1);
        }
        appendBits(due, codec.getField(0, 2), 4);
        check.due("bits of the frame", due.length(), codec.getBitCount());
        while (due.length() < 64) {
            due.append('0');
        }
        for (int i = 0; i < 4; i++) {
            int word = Integer.parseInt(due.substring(16 * i, 16 * i + 16), 2);
            check.due("getWord(" + i + ") from the fields", codec.getWord(i), word);
        }
    }

    private static void appendBits(StringBuilder bits, int value, int width) {
        for (int i = width - 1; i >= 0; i--) {
            bits.append((value >> i) & 1);
        }
    }

    private static void decoderSideStays() {
        CelpSpeechCodec codec = new CelpSpeechCodec(6, 32);
        codec.decodeFrame(0x1234, 0x5678, 0x9abc, 0xdef0);
        int[] before = Check.viewOfSide(codec, 1);
        for (int frame = 0; frame < 4; frame++) {
            for (int n = 0; n < 32; n++) {
                codec.putSample((n % 9) * 1500 - 6000);
            }
            check.due("encodeFrame()", codec.encodeFrame(), true);
            check.same("decoder side after encodeFrame()", Check.viewOfSide(codec, 1), before);
        }
        CelpSpeechCodec alone = new CelpSpeechCodec(6, 32);
        alone.decodeFrame(0x1234, 0x5678, 0x9abc, 0xdef0);
        alone.decodeFrame(0xfedc, 0xba98, 0x7654, 0x3210);
        codec.decodeFrame(0xfedc, 0xba98, 0x7654, 0x3210);
        check.same("decoding goes on as alone", Check.viewOfSide(codec, 1), Check.viewOfSide(alone, 1));
    }

    private static void wordsAndRawOutOfRange() {
        CelpSpeechCodec codec = new CelpSpeechCodec(3, 8);
        Check.putAll(codec, 9000, 8000, 7000, 5000, 3000, -1000, -4000, -8000);
        codec.encodeFrame();
        int[] before = Check.viewOfAll(codec);
        int[] wrong = {Integer.MIN_VALUE, -32, -1, 4, 5, 6, 7, 16, 64, Integer.MAX_VALUE};
        for (int i : wrong) {
            check.due("getWord(" + i + ")", codec.getWord(i), 0);
            check.due("getRawReflection(" + i + ")", codec.getRawReflection(i), 0);
        }
        check.due("getRawReflection(0)", codec.getRawReflection(0), 0);
        check.due("getRawReflection(1) is not 0", codec.getRawReflection(1) != 0, true);
        check.due("getRawReflection(3) is not 0", codec.getRawReflection(3) != 0, true);
        check.same("view after asking", Check.viewOfAll(codec), before);
        codec.decodeFrame(0x8888, 0x0000, 0x1000, 0);
        codec.putSample(4);
        check.due("W0 after decoding", codec.getWord(0) != 0x8888, true);
    }
}
