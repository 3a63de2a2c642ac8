import java.util.Random;

// Long runs of mixed calls, each answer compared with the document's steps done plainly.
public final class ReferenceTest {
    private static final int STYLES = 9;
    private static final String[] BOUNDARY_CASES = {"E2 R[0] == 0", "E2 E <= 0", "E2 km too large", "E2 km too small",
        "E3 tie at 0", "E3 tie at 6144", "E3 tie at -6144", "E4 f too large", "E4 f too small", "E4 b too large",
        "E4 b too small", "E4 x too large", "E4 x too small", "E5 f too large", "E5 f too small", "E5 b too large",
        "E5 b too small", "E6 y too large", "E6 y too small", "E6 tie of lags", "E6 sum past 32 bits", "E7 x2 too large",
        "E7 x2 too small", "E8 z too large for 16 bits", "E8 z too small for 16 bits", "E8 tie of pulses",
        "D3 u too large", "D3 u too small", "D4 f too large", "D4 f too small", "D4 b too large", "D4 b too small"};
    private static final Check check = new Check();

    public static void main(String[] args) {
        for (int order = 2; order <= 6; order++) {
            for (int length = 8; length <= 32; length += 4) {
                for (int style = 0; style < STYLES; style++) {
                    encodeStyle(order, length, style);
                }
                mixedRun(order, length);
                loudDecoding(order, length);
            }
            longQuietRun(order);
        }
        for (int run = 0; run < 1500; run++) {
            swellingRun(run);
        }
        rareRuns();
        boundaryCasesWereMet();
        check.finish();
    }

    private static void encodeStyle(int order, int length, int style) {
        CelpSpeechCodec codec = new CelpSpeechCodec(order, length);
        ReferenceCodec reference = new ReferenceCodec(order, length);
        Random random = new Random(order * 1000 + length * 10 + style);
        String name = order + ", " + length + ", style " + style;
        for (int frame = 0; frame < 5; frame++) {
            for (int n = 0; n < length; n++) {
                int sample = sampleOf(style, frame * length + n, random);
                check.due(name + " putSample", codec.putSample(sample), reference.put(sample));
            }
            check.due(name + " encodeFrame", codec.encodeFrame(), reference.encode());
            compare(name + ", frame " + frame, codec, reference);
        }
    }

    private static int sampleOf(int style, int time, Random random) {
        switch (style) {
            case 0: return random.nextInt(65536) - 32768;
            case 1: return random.nextInt(41) - 20;
            case 2: return (int) (9000 * Math.sin(time * 0.31) + 2500 * Math.sin(time * 0.97));
            case 3: return time % 19 == 0 ? 12000 : random.nextInt(200) - 100;
            case 4: return time % 2 == 0 ? 32767 : -32768;
            case 5: return (time / 7) % 2 == 0 ? Integer.MAX_VALUE : Integer.MIN_VALUE;
            case 6: return time % 11 * 300 - 1500;
            case 7: return random.nextInt(16) == 0 ? random.nextInt(3) - 1 : 0;
            default: return 32767;
        }
    }

    private static void mixedRun(int order, int length) {
        CelpSpeechCodec codec = new CelpSpeechCodec(order, length);
        ReferenceCodec reference = new ReferenceCodec(order, length);
        Random random = new Random(order * 77 + length);
        String name = order + ", " + length + ", mixed";
        for (int call = 0; call < 12 * length; call++) {
            int choice = random.nextInt(16);
            if (choice < 12) {
                int sample = random.nextInt() >> (4 + random.nextInt(28));
                check.due(name + " putSample", codec.putSample(sample), reference.put(sample));
            } else if (choice == 12) {
                check.due(name + " encodeFrame", codec.encodeFrame(), reference.encode());
            } else if (choice == 13) {
                int[] w = new int[4];
                for (int i = 0; i < 4; i++) {
                    w[i] = reference.word(i);
                }
                decodeBoth(name, codec, reference, w);
            } else if (choice == 14) {
                int[] w = {random.nextInt(), random.nextInt(), random.nextInt(), random.nextInt()};
                decodeBoth(name, codec, reference, w);
            } else {
                compare(name + ", call " + call, codec, reference);
            }
            check.due(name + " getPending", codec.getPending(), reference.pending.size());
        }
        compare(name + ", end", codec, reference);
    }

    // Many frames near the smallest pulse amplitudes, where a rounding of one step turns a choice.
    private static void longQuietRun(int order) {
        CelpSpeechCodec codec = new CelpSpeechCodec(order, 8);
        ReferenceCodec reference = new ReferenceCodec(order, 8);
        Random random = new Random(order);
        for (int frame = 0; frame < 3000; frame++) {
            int loudness = 2 + random.nextInt(120);
            for (int n = 0; n < 8; n++) {
                int sample = random.nextInt(2 * loudness) - loudness;
                codec.putSample(sample);
                reference.put(sample);
            }
            codec.encodeFrame();
            reference.encode();
            for (int i = 0; i < 4; i++) {
                check.due("quiet frame " + frame + " getWord " + i, codec.getWord(i), reference.word(i));
            }
            for (int m = 1; m <= order; m++) {
                check.due("quiet frame " + frame + " k" + m, codec.getRawReflection(m), reference.rawReflection(m));
            }
        }
        compare("quiet run's end", codec, reference);
    }

    // Frames that swell and fall away are foretold so well that E comes near 0 and the filters ring.
    private static void swellingRun(int run) {
        Random random = new Random(run);
        int order = 4 + random.nextInt(3);
        int length = 8 + 4 * random.nextInt(7);
        CelpSpeechCodec codec = new CelpSpeechCodec(order, length);
        ReferenceCodec reference = new ReferenceCodec(order, length);
        for (int frame = 0; frame < 3; frame++) {
            double tone = random.nextInt(3) == 0 ? random.nextInt(2) * Math.PI : random.nextDouble() * Math.PI;
            int loudness = random.nextBoolean() ? 32767 : 1 + random.nextInt(32767);
            double power = 1 + random.nextInt(6);
            for (int n = 0; n < length; n++) {
                double swell = Math.pow(Math.sin(Math.PI * (n + 1) / (length + 1)), power);
                int sample = (int) (loudness * swell * Math.cos(tone * n));
                codec.putSample(sample);
                reference.put(sample);
            }
            check.due("encodeFrame", codec.encodeFrame(), reference.encode());
            compare("swelling run " + run + ", frame " + frame, codec, reference);
        }
    }

    // Frames for the cases that are too rare to meet by chance.
    private static void rareRuns() {
        int[] loud = {0, 32767, -32767, 0, 0, -32767, -32767, 0, 0, 32767, -32767, -32767, 32767, 32767, 0, 0};
        int[] smooth = {203, -1524, 4529, -8849, 13250, -16149, 16337, -13548, 8612, -3108, -1311, 3609, -3727, 2473,
            -1002, 155};
        givenRun(5, loud, loud, loud, loud, loud, loud, loud, loud, smooth, loud, smooth);
        givenRun(5,
            new int[] {69, -501, 1293, -1873, 1382, 704, -4073, 7576, -9808, 9887, -7946, 4999, -2300, 640, -36, -18},
            new int[] {40, 295, 799, 1294, 1338, 583, -956, -2836, -4375, -5003, -4552, -3325, -1894, -778, -189, -14},
            new int[] {203, 731, -2633, -9978, -6541, 14660, 28685, 9983, -22366, -28100, -5216, 12547, 9377, 637,
                -1250, -183});
        int[] far = new int[32];
        far[0] = -2000;
        far[16] = 2000;
        givenRun(2, far, far, far);
    }

    private static void givenRun(int order, int[]... frames) {
        CelpSpeechCodec codec = new CelpSpeechCodec(order, frames[0].length);
        ReferenceCodec reference = new ReferenceCodec(order, frames[0].length);
        for (int[] frame : frames) {
            for (int sample : frame) {
                codec.putSample(sample);
                reference.put(sample);
            }
            check.due("encodeFrame", codec.encodeFrame(), reference.encode());
            compare("given run of order " + order, codec, reference);
        }
    }

    private static void boundaryCasesWereMet() {
        for (String name : BOUNDARY_CASES) {
            check.due("the runs met: " + name, ReferenceCodec.MET.contains(name), true);
        }
    }

    // The same strong pulses again and again at the greatest gain, until every saturation is met.
    private static void loudDecoding(int order, int length) {
        for (int q = 0; q < 16; q++) {
            CelpSpeechCodec codec = new CelpSpeechCodec(order, length);
            ReferenceCodec reference = new ReferenceCodec(order, length);
            int signs = q % 2 == 0 ? 0x0000 : 0x1111;
            long bits = 0;
            for (int m = 1; m <= order; m++) {
                bits = bits << 4 | (m % 2 == 0 ? 15 - q : q);
            }
            bits = ((bits << 5 | length - 4) << 3 | 7) << 16 | signs;
            bits = (bits << 4 | 15) << (36 - 4 * order);
            int[] w = {(int) (bits >> 48), (int) (bits >> 32), (int) (bits >> 16), (int) bits};
            for (int frame = 0; frame < 24; frame++) {
                decodeBoth("loud " + q, codec, reference, w);
            }
            compare("loud " + q, codec, reference);
        }
    }

    private static void decodeBoth(String name, CelpSpeechCodec codec, ReferenceCodec reference, int[] w) {
        check.due(name + " decodeFrame", codec.decodeFrame(w[0], w[1], w[2], w[3]),
            reference.decode(w[0], w[1], w[2], w[3]));
    }

    private static void compare(String name, CelpSpeechCodec codec, ReferenceCodec reference) {
        check.due(name + " getPending", codec.getPending(), reference.pending.size());
        for (int i = -2; i <= 66; i++) {
            check.due(name + " getWord " + i, codec.getWord(i), reference.word(i));
            check.due(name + " getRawReflection " + i, codec.getRawReflection(i), reference.rawReflection(i));
            for (int side = -1; side <= 2; side++) {
                String at = " " + side + ", " + i;
                check.due(name + " getField" + at, codec.getField(side, i), reference.field(side, i));
                check.due(name + " getReflection" + at, codec.getReflection(side, i), reference.reflection(side, i));
                check.due(name + " getOutput" + at, codec.getOutput(side, i), reference.output(side, i));
                check.due(name + " getExcitation" + at, codec.getExcitation(side, i), reference.excitation(side, i));
                check.due(name + " getMemory" + at, codec.getMemory(side, i), reference.memory(side, i));
            }
        }
        for (int side = -1; side <= 2; side++) {
            check.due(name + " getFrameCount", codec.getFrameCount(side), reference.frameCount(side));
        }
    }
}
