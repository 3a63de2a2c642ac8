// The boundary cases of promise 7 up to step E5, a test for each sentence. The frames that are not
// worked by hand were worked by a program written apart from this one, in another language; each was
// chosen because its answer changes if the sentence is broken.
public final class AnalysisBoundaryTest {
    private static final Check check = new Check();

    public static void main(String[] args) {
        check.sentence("7: If fewer than N samples are pending: answers false", AnalysisBoundaryTest::shortFrameRefused);
        check.sentence("7: fewer than N samples: changes nothing", AnalysisBoundaryTest::refusedFrameChangesNothing);
        check.sentence("7: fewer than N samples: no trace in later frames", AnalysisBoundaryTest::refusedFrameLeavesNoTrace);
        check.sentence("7 E1: s[n]*s[n-i] (long)", AnalysisBoundaryTest::loudFramesNeedWideSums);
        check.sentence("7 E1: i = 0..P, with the longest lag in the shortest frame", AnalysisBoundaryTest::longestLag);
        check.sentence("7 E2: If R[0] == 0: k1..kP = 0", AnalysisBoundaryTest::silenceHasNoReflections);
        check.sentence("7 E2: Otherwise, from R[0] = 1 on", AnalysisBoundaryTest::quietestFrames);
        check.sentence("7 E2: den = R[0] + (R[0] >> 7) + 1", AnalysisBoundaryTest::divisor);
        check.sentence("Notation: a / b on long truncates toward zero", AnalysisBoundaryTest::divisionTruncates);
        check.sentence("7 E2: if E <= 0, km = 0", AnalysisBoundaryTest::spentEnergyGivesZero);
        check.sentence("7 E2: if E <= 0: nothing of an earlier frame stays", AnalysisBoundaryTest::spentEnergyAfterAFrame);
        check.sentence("7 E2: else, with E as little as 1", AnalysisBoundaryTest::leastEnergyCounts);
        check.sentence("7 E2: km clamped into [-32767,32767]: too large", AnalysisBoundaryTest::tooLargeReflection);
        check.sentence("7 E2: km clamped into [-32767,32767]: too small", AnalysisBoundaryTest::tooSmallReflection);
        check.sentence("7 E2: a[j], all from the old a", AnalysisBoundaryTest::predictorFromTheOldOne);
        check.sentence("Notation: a >> s rounds toward minus infinity", AnalysisBoundaryTest::shiftRoundsDown);
        check.sentence("7 E3: a tie goes to the lower i", AnalysisBoundaryTest::tiesGoLow);
        check.sentence("7 E3: km beyond the table's ends", AnalysisBoundaryTest::beyondTheTable);
        check.sentence("7 E4: x[n] = sat16(s[n] - z0[n]): too large", AnalysisBoundaryTest::targetTooLarge);
        check.sentence("7 E4: x[n] = sat16(s[n] - z0[n]): too small", AnalysisBoundaryTest::targetTooSmall);
        check.sentence("7 E4: the lattice step saturates f: too large", AnalysisBoundaryTest::ringingForwardTooLarge);
        check.sentence("7 E4: the lattice step saturates f: too small", AnalysisBoundaryTest::ringingForwardTooSmall);
        check.sentence("7 E4: the lattice step saturates b[j]: too large", AnalysisBoundaryTest::ringingBackwardTooLarge);
        check.sentence("7 E4: the lattice step saturates b[j]: too small", AnalysisBoundaryTest::ringingBackwardTooSmall);
        check.sentence("7 E4: The encoder memory itself is not changed by this step", AnalysisBoundaryTest::memoryIsCopied);
        check.sentence("7 E5: on an all-zero memory", AnalysisBoundaryTest::impulseFromZeroMemory);
        check.sentence("7 E5: the lattice step saturates f: too large", AnalysisBoundaryTest::impulseForwardTooLarge);
        check.sentence("7 E5: the lattice step saturates f: too small", AnalysisBoundaryTest::impulseForwardTooSmall);
        check.sentence("7 E5: the lattice step saturates b[j]: too large", AnalysisBoundaryTest::impulseBackwardTooLarge);
        check.sentence("7 E5: the lattice step saturates b[j]: too small", AnalysisBoundaryTest::impulseBackwardTooSmall);
        check.finish();
    }

    private static void shortFrameRefused() {
        for (int length = 8; length <= 32; length += 4) {
            CelpSpeechCodec codec = new CelpSpeechCodec(3, length);
            for (int n = 0; n < length; n++) {
                check.due("encodeFrame() with " + n + " of " + length, codec.encodeFrame(), false);
                codec.putSample(25 * n);
            }
            check.due("encodeFrame() with all " + length, codec.encodeFrame(), true);
            check.due("encodeFrame() right after", codec.encodeFrame(), false);
        }
    }

    private static void refusedFrameChangesNothing() {
        for (int length = 8; length <= 32; length += 4) {
            int of = length;
            for (int more = 0; more < length - 5; more++) {
                int samples = more;
                check.changesNothing("a refused frame", () -> shortOfSamples(of, samples), codec -> {
                    codec.encodeFrame();
                    codec.encodeFrame();
                });
            }
        }
    }

    private static CelpSpeechCodec shortOfSamples(int length, int more) {
        CelpSpeechCodec codec = Check.busy(4, length);
        Check.putRepeated(codec, 4000, more);
        return codec;
    }

    private static void refusedFrameLeavesNoTrace() {
        CelpSpeechCodec asked = new CelpSpeechCodec(5, 12);
        CelpSpeechCodec plain = new CelpSpeechCodec(5, 12);
        for (int n = 0; n < 36; n++) {
            asked.encodeFrame();
            asked.putSample(n * n * 37 % 2001 - 1000);
            asked.encodeFrame();
            plain.putSample(n * n * 37 % 2001 - 1000);
            if (n % 12 == 11) {
                plain.encodeFrame();
            }
            check.same("after sample " + n, Check.viewOfAll(asked), Check.viewOfAll(plain));
        }
    }

    // R[0] is above 2^31 in the first frame, and 2^35, the greatest there is, in the second.
    private static void loudFramesNeedWideSums() {
        CelpSpeechCodec loud = Check.encoded(2, new int[] {11206, -20982, 27949, -31178, 30339, -25740, 18263, -9196});
        check.frame("loud frame", loud, Check.words(0xfd00, 0x0101, 0xf000, 0), 30778, 25940);
        CelpSpeechCodec loudest = new CelpSpeechCodec(6, 32);
        Check.putRepeated(loudest, -32768, 32);
        loudest.encodeFrame();
        check.frame("loudest frame", loudest, Check.words(0x0888, 0x8800, 0x5715, 0xf000),
            -31744, 520, 532, 551, 542, 552);
    }

    // Two equal samples six places apart in a frame of 8: R[6] is half of R[0], the others are 0.
    // R = 2000000 and 1000000, r = 32512 and 16256, so k6 = -(16256*32768/32512).
    private static void longestLag() {
        CelpSpeechCodec codec = Check.encoded(6, new int[] {0, 1000, 0, 0, 0, 0, 0, 1000});
        for (int m = 1; m <= 5; m++) {
            check.due("k" + m, codec.getRawReflection(m), 0);
        }
        check.due("k6", codec.getRawReflection(6), -16384);
    }

    private static void silenceHasNoReflections() {
        for (int order = 2; order <= 6; order++) {
            for (int length = 8; length <= 32; length += 4) {
                CelpSpeechCodec codec = Check.busy(order, length);
                Check.putRepeated(codec, 3000, length);
                codec.encodeFrame();
                check.due("k1 before silence is not 0", codec.getRawReflection(1) != 0, true);
                Check.putRepeated(codec, 0, length);
                check.due("encodeFrame() of silence", codec.encodeFrame(), true);
                for (int m = 1; m <= order; m++) {
                    check.due("k" + m + " of silence", codec.getRawReflection(m), 0);
                    check.due("q" + m + " of silence", codec.getField(0, 10 + m), 7);
                }
            }
        }
    }

    // Two neighbours of 1: R = 2, 1, 0, den = 3, r = 21844, 10922, 0, k1 = -16384,
    // E = 21844*(2^30-2^28) >> 30 = 16383, k2 = 16384*10922/16383 = 10922.
    private static void quietestFrames() {
        CelpSpeechCodec one = Check.encoded(2, new int[] {0, 0, 0, -1, 0, 0, 0, 0});
        check.frame("one sample of -1", one, Check.words(0x7700, 0, 0, 0), 0, 0);
        CelpSpeechCodec two = Check.encoded(2, new int[] {0, 0, 0, 1, 1, 0, 0, 0});
        check.frame("two samples of 1", two, Check.words(0x5900, 0, 0, 0), -16384, 10922);
    }

    private static void divisor() {
        CelpSpeechCodec one = Check.encoded(2, new int[] {295, -456, 261, 211, -644, 745, -487, 131});
        check.frame("the 1 counts", one, Check.words(0xcd00, 0x3112, 0xa000, 0), 24916, 26770);
        CelpSpeechCodec small = Check.encoded(2, new int[] {0, -2, -1, -1, 1, -1, 1, -1});
        check.frame("R[0] of 10 has no 128th", small, Check.words(0x8500, 0, 0, 0), 3275, -12908);
        CelpSpeechCodec great = Check.encoded(2, new int[] {-32767, 32767, 0, 0, -32767, 0, 0, 32767});
        check.frame("not the 64th", great, Check.words(0x9800, 0x1032, 0xf000, 0), 8192, 2184);
        CelpSpeechCodec other = Check.encoded(2, new int[] {709, 3827, 31773, -12843, 19480, 13874, 23806, -16896});
        check.frame("not the 256th", other, Check.words(0x8600, 0x2203, 0xf000, 0), 4206, -7653);
    }

    private static void divisionTruncates() {
        CelpSpeechCodec scaled = Check.encoded(2, new int[] {4455, -5198, 5760, -6064, 6064, -5760, 5198, -4455});
        check.frame("r[1] below 0", scaled, Check.words(0xe900, 0x0103, 0xf000, 0), 29850, 7958);
        CelpSpeechCodec above = Check.encoded(2, new int[] {0, -2, -1, 2, 2, 1, 1, -2});
        check.frame("acc below 0", above, Check.words(0x6900, 0, 0, 0), -8622, 9849);
        CelpSpeechCodec below = Check.encoded(2, new int[] {0, 32767, 0, 32767, 32767, 0, 32767, 32767});
        check.frame("acc above 0", below, Check.words(0x5600, 0x2020, 0xf000, 0), -13107, -9362);
    }

    // A bell of 24 samples is foretold so well by three coefficients that nothing is left of E.
    private static int[] bell() {
        int[] half = {842, 1549, 2694, 4435, 6906, 10174, 14183, 18706, 23344, 27561, 30788, 32541};
        int[] frame = new int[24];
        for (int n = 0; n < 12; n++) {
            frame[n] = half[n];
            frame[23 - n] = half[n];
        }
        return frame;
    }

    private static void spentEnergyGivesZero() {
        CelpSpeechCodec six = Check.encoded(6, bell());
        check.frame("bell, order 6", six, Check.words(0x0f07, 0x7700, 0x4249, 0xf000), -32316, 31873, -32422, 0, 0, 0);
        CelpSpeechCodec four = Check.encoded(4, bell());
        check.frame("bell, order 4", four, Check.words(0x0f07, 0x0042, 0x49f0, 0), -32316, 31873, -32422, 0);
        CelpSpeechCodec afterClamp = Check.encoded(5,
            new int[] {170, -1243, 3582, -6747, 9689, -11281, 10901, -8738, 5671, -2798, 899, -113});
        check.frame("a clamped k4 leaves nothing", afterClamp, Check.words(0xfeef, 0x7000, 0x101a, 0),
            31039, 29765, 29139, 32767, 0);
    }

    private static void spentEnergyAfterAFrame() {
        CelpSpeechCodec codec = new CelpSpeechCodec(6, 24);
        Check.putAll(codec, 900, -400, 50, 1300, -700, 20, 650, -90, 1200, 14, -60, 5,
            300, -20, 850, 1300, 700, -220, 50, -790, 120, 1400, -60, 55);
        codec.encodeFrame();
        for (int m = 4; m <= 6; m++) {
            check.due("k" + m + " of the first frame is not 0", codec.getRawReflection(m) != 0, true);
        }
        Check.putAll(codec, bell());
        codec.encodeFrame();
        for (int m = 4; m <= 6; m++) {
            check.due("k" + m + " of the bell", codec.getRawReflection(m), 0);
            check.due("q" + m + " of the bell", codec.getField(0, 10 + m), 7);
        }
    }

    private static void leastEnergyCounts() {
        CelpSpeechCodec codec = Check.encoded(5,
            new int[] {382, -2777, 7867, -14402, 19834, -21801, 19502, -14103, 7961, -3229, 771, -57});
        check.frame("k5 by the last of E", codec, Check.words(0xfeef, 0xf000, 0x445e, 0),
            30866, 29444, 28669, 32643, 32767);
    }

    private static void tooLargeReflection() {
        CelpSpeechCodec six = Check.encoded(6, new int[] {769, -5040, 11825, -16182, 14538, -8501, 2816, -313});
        check.frame("k6 too large", six, Check.words(0xedcc, 0xcf00, 0x0122, 0xd000),
            29086, 26429, 24485, 23197, 23807, 32767);
        CelpSpeechCodec four = Check.encoded(4,
            new int[] {449, -3273, 9373, -17487, 24769, -28314, 26714, -20774, 12974, -6099, 1842, -214});
        check.frame("k4 too large", four, Check.words(0xfeef, 0x0001, 0x04d0, 0), 30995, 29676, 28954, 32767);
    }

    private static void tooSmallReflection() {
        CelpSpeechCodec one = Check.encoded(5,
            new int[] {189, 1386, 4024, 7679, 11232, 13398, 13343, 11096, 7524, 3911, 1336, 181});
        check.frame("k5 too small", one, Check.words(0x0e1e, 0, 0x003b, 0), -31082, 29834, -28948, 30041, -32767);
        CelpSpeechCodec other = Check.encoded(5,
            new int[] {449, 3266, 9295, 17154, 23913, 26740, 24497, 18316, 10851, 4742, 1288, 126});
        check.frame("k5 too small again", other, Check.words(0x0e1f, 0, 0x544f, 0),
            -30928, 29543, -28661, 31083, -32767);
    }

    private static void predictorFromTheOldOne() {
        CelpSpeechCodec codec = Check.encoded(4, new int[] {-42, -277, 482, -286, -899, -740, -775, 897});
        check.frame("k4", codec, Check.words(0x7898, 0x0033, 0x32c0, 0), -5620, 2381, 6642, 1875);
    }

    private static void shiftRoundsDown() {
        CelpSpeechCodec below = Check.encoded(3, new int[] {4604, 441, -11599, -2023, 12983, 2945, -8251, -1611});
        check.frame("a[1] below 0", below, Check.words(0x7d70, 0x0011, 0x3f00, 0), -1714, 26083, -1172);
        CelpSpeechCodec half = Check.encoded(3, new int[] {0, 0, 32000, 32000, 32000, 32000, 32000, 32000});
        check.frame("a[1] with its half", half, Check.words(0x2880, 0x0200, 0x0f00, 0), -27307, 2980, 3277);
        CelpSpeechCodec energy = Check.encoded(4,
            new int[] {179, 0, -4212, 7, 14672, -29, -25690, 56, 28504, -65, -20710, 45, 8828, -15, -1361, 0});
        check.frame("E just below a whole number", energy, Check.words(0x8e8d, 0x0020, 0x11f0, 0), 8, 28962, 1, 26301);
    }

    // The five values that lie in the middle between two neighbours of the table.
    private static void tiesGoLow() {
        int[][] frames = {{-27, -38, -14, -14, -9, 11, 30, 17}, {-15, 29, 34, -5, -28, -39, 14, -11},
            {0, 0, 0, 5, 0, 0, 0, 0}, {28, 13, 28, -29, 10, 30, -16, 12}, {-34, 8, 7, -13, 27, -31, 29, -33}};
        int[] raw = {-21709, -6144, 0, 6144, 21709};
        int[] index = {3, 6, 7, 8, 11};
        int[] level = {-23757, -9011, -3277, 3277, 19661};
        for (int i = 0; i < frames.length; i++) {
            CelpSpeechCodec codec = Check.encoded(2, frames[i]);
            check.due("k1", codec.getRawReflection(1), raw[i]);
            check.due("q1 of k1 = " + raw[i], codec.getField(0, CelpSpeechCodec.FIELD_K1), index[i]);
            check.due("c1 of k1 = " + raw[i], codec.getReflection(0, 1), level[i]);
        }
    }

    private static void beyondTheTable() {
        CelpSpeechCodec low = Check.encoded(6, bell());
        check.due("q1 of -32316", low.getField(0, 11), 0);
        check.due("c1 of -32316", low.getReflection(0, 1), -31130);
        check.due("q2 of 31873", low.getField(0, 12), 15);
        check.due("c2 of 31873", low.getReflection(0, 2), 31130);
        CelpSpeechCodec first = Check.encoded(2, new int[] {11206, 20895, 27482, 29996, 28265, 22940, 15336, 7131});
        check.frame("q1 is the first", first, Check.words(0x0d00, 0, 0xf000, 0), -30729, 26271);
        CelpSpeechCodec last = Check.encoded(2, new int[] {11206, -20838, 27175, -29223, 26921, -21146, 13485, -5846});
        check.frame("q1 is the last", last, Check.words(0xfd00, 0x0101, 0xf000, 0), 30673, 26353);
    }

    private static void targetTooLarge() {
        CelpSpeechCodec codec = Check.encoded(2, new int[] {32767, 0, 0, 0, 32767, 0, 32767, 32767},
            new int[] {32767, 32767, 0, -32767, 32767, -32767, 0, 32767});
        check.frame("target too large", codec, Check.words(0x890f, 0x2312, 0xf000, 0), 5460, 6552);
        check.outputs("target too large", codec, 0, -934, 1272, 119, 1707, 3869, -3011, 1392, 4771);
    }

    private static void targetTooSmall() {
        CelpSpeechCodec codec = Check.encoded(2, new int[] {0, -32767, 0, 0, -32767, -32767, 0, 32767},
            new int[] {32767, -32767, 32767, 32767, -32767, 32767, -32767, -32767});
        check.frame("target too small", codec, Check.words(0xa80f, 0x3230, 0xf000, 0), 12288, 5362);
        check.outputs("target too small", codec, 0, -1594, -1622, -1110, 4832, -2256, 2681, -5221, 245);
    }

    private static void ringingForwardTooLarge() {
        CelpSpeechCodec codec = Check.encoded(4,
            new int[] {264, -450, -5018, 6964, 9316, -17409, -3050, 15732, -3252, -4820, 1357, 140},
            new int[] {449, 3278, 9439, 17769, 25497, 29658, 28623, 22907, 14837, 7305, 2341, 294});
        check.frame("ringing", codec, Check.words(0x0e1f, 0x2b41, 0x21a0, 0), -31037, 29752, -28911, 30638);
        CelpSpeechCodec limit = Check.encoded(4,
            new int[] {203, 1412, 3214, 3160, -1592, -11523, -23355, -31533, -31757, -23928, -12205, -2148, 2838, 3093,
                1390, 203},
            new int[] {203, 1544, 4778, 10007, 16619, 23431, 29025, 32152, 32092, 28862, 23212, 16402, 9840, 4680,
                1507, 197});
        check.frame("to 32767", limit, Check.words(0x0f0f, 0x0046, 0x47e0, 0), -31774, 31058, -31504, 32767);
    }

    private static void ringingForwardTooSmall() {
        CelpSpeechCodec codec = Check.encoded(4,
            new int[] {449, -2159, -1312, 15290, -25774, 13682, 12874, -25563, 15561, -1573, -2090, 448},
            new int[] {10, -74, 215, -406, 582, -677, 654, -523, 339, -166, 53, -6});
        check.frame("ringing", codec, Check.words(0xfeef, 0x3f01, 0x42a0, 0), 31033, 29753, 28939, 30468);
        CelpSpeechCodec limit = Check.encoded(4,
            new int[] {200, 1355, 2749, 1458, -5262, -16638, -27508, -31407, -25361, -12363, 692, 7934, 8199, 4682,
                1428, 135},
            new int[] {203, -1533, 4645, -9386, 14799, -19461, 22029, -21752, 18754, -13961, 8725, -4301, 1420, -110,
                -147, 43});
        check.frame("to -32768", limit, Check.words(0xffff, 0x6576, 0x6690, 0), 31488, 30591, 31172, 32767);
    }

    private static void ringingBackwardTooLarge() {
        CelpSpeechCodec codec = Check.encoded(5,
            new int[] {69, -501, 1293, -1873, 1382, 704, -4073, 7576, -9808, 9887, -7946, 4999, -2300, 640, -36, -18},
            new int[] {40, 295, 799, 1294, 1338, 583, -956, -2836, -4375, -5003, -4552, -3325, -1894, -778, -189, -14},
            new int[] {203, 731, -2633, -9978, -6541, 14660, 28685, 9983, -22366, -28100, -5216, 12547, 9377, 637,
                -1250, -183});
        check.frame("ringing", codec, Check.words(0x5e5d, 0x5070, 0x233f, 0), -15054, 28995, -14377, 26348, -13542);
        CelpSpeechCodec limit = Check.encoded(5,
            new int[] {203, 200, -4619, -3815, 14444, 14244, -20700, -25569, 16327, 26867, -6238, -16492, 82, 4744,
                385, -188},
            new int[] {203, -1519, 4474, -8596, 12529, -14631, 13776, -9941, 4276, 1375, -5288, 6587, -5545, 3315,
                -1252, 183},
            new int[] {145, -57, -3412, 1119, 11692, -4344, -19911, 8281, 21229, -9456, -14630, 6480, 5830, -2150,
                -826, 102});
        check.frame("to 32767", limit, Check.words(0x8e8d, 0x8570, 0x011f, 0), 1654, 28961, 1583, 26295, 1520);
    }

    private static void ringingBackwardTooSmall() {
        CelpSpeechCodec codec = Check.encoded(5,
            new int[] {64, -503, 1634, -3660, 6644, -10487, 14940, -19636, 24134, -27982, 30777, -32220, 32152, -30586,
                27692, -23784, 19271, -14601, 10206, -6439, 3532, -1570, 482, -61},
            new int[] {2, 2, -67, -45, 259, 212, -523, -536, 715, 932, -710, -1226, 501, 1264, -204, -1023, -22, 628,
                99, -266, -64, 59, 12, -2});
        check.frame("ringing", codec, Check.words(0x7f7e, 0x7877, 0x4a0f, 0), -3220, 30951, -3142, 29599, -2892);
        CelpSpeechCodec limit = Check.encoded(6,
            new int[] {108, -748, 1585, -967, -3069, 10907, -20120, 26185, -24981, 15519, -963, -12894, 20816, -20876,
                15081, -7608, 2072, 284, -456, 93},
            new int[] {2193, -993, -5715, 5299, 6027, -10529, -2329, 13684, -3945, -12810, 9905, 8086, -12784, -1733,
                11454, -3205, -7036, 4528, 2272, -2081});
        check.frame("to -32768", limit, Check.words(0x9f9e, 0x8b6f, 0x0102, 0xe000),
            7418, 31448, 6893, 29042, 1464, 17342);
    }

    private static void memoryIsCopied() {
        CelpSpeechCodec codec = Check.encoded(2, new int[] {735, -4288, 6501, -1382, -7129, 9462, -4818, 693},
            new int[] {1310, 6572, 2998, -16975, -30053, -19328, -3581, 375});
        check.frame("second frame", codec, Check.words(0x3c17, 0x3311, 0xf000, 0), -22818, 21853);
        check.outputs("second frame", codec, 0, 3140, 7069, 2444, -4116, -8967, -10278, -4282, 4169);
        check.memory("second frame", codec, 0, 4169, -7305);
    }

    private static void impulseFromZeroMemory() {
        CelpSpeechCodec codec = Check.encoded(2, new int[] {32767, 0, 0, 32767, 0, 0, -32767, 0},
            new int[] {494, -692, 139, 825, -1388, 1095, -305, -190});
        check.frame("second frame", codec, Check.words(0xcc12, 0x1313, 0x9000, 0), 22868, 25330);
        check.outputs("second frame", codec, 0, 1295, -915, -51, 727, -1464, 1047, -248, -113);
        check.memory("second frame", codec, 0, -113, -330);
    }

    private static void impulseForwardTooLarge() {
        CelpSpeechCodec codec = Check.encoded(6, new int[] {1198, 7895, 18853, 26618, 25095, 15762, 5811, 766});
        check.frame("impulse", codec, Check.words(0x1d3c, 0x3c00, 0x0023, 0xe000),
            -29226, 26683, -24777, 23163, -21802, 23367);
        CelpSpeechCodec limit = Check.encoded(5,
            new int[] {372, 2512, 5498, 5391, -864, -11366, -19882, -21075, -15117, -7035, -1734, -105});
        check.frame("to 32767", limit, Check.words(0x2d2d, 0x2003, 0x315d, 0), -28180, 27857, -25938, 25708, -26807);
    }

    private static void impulseForwardTooSmall() {
        CelpSpeechCodec codec = Check.encoded(6, new int[] {436, -2887, 6998, -10136, 9922, -6561, 2590, -374});
        check.frame("impulse", codec, Check.words(0xedcc, 0xcf00, 0x0103, 0xb000),
            29312, 26849, 25034, 23620, 23207, 30656);
        CelpSpeechCodec limit = Check.encoded(4, new int[] {203, -1544, 4775, -9997, 16588, -23364, 28905, -31972,
            31857, -28594, 22945, -16174, 9677, -4589, 1473, -192});
        check.frame("to -32768", limit, Check.words(0xffff, 0x0021, 0x67e0, 0), 31772, 31030, 30814, 32767);
    }

    private static void impulseBackwardTooLarge() {
        CelpSpeechCodec codec = Check.encoded(6, new int[] {41, 49, -1017, -1067, 3686, 4999, -6531, -12676, 6475,
            22129, -1372, -29167, -7833, 30006, 17194, -23941, -22192, 13956, 20740, -4711, -14427, -503, 7118, 1543,
            -2125, -649, 225, 33});
        check.frame("impulse", codec, Check.words(0x7f7f, 0x7f00, 0x02cd, 0xf000),
            -4904, 31411, -4827, 30419, -4813, 30317);
        CelpSpeechCodec limit = Check.encoded(6, new int[] {15, 7, -396, -169, 1628, 835, -3710, -2301, 6101, 4512,
            -7971, -6964, 8620, 8866, -7822, -9502, 5923, 8590, -3643, -6450, 1709, 3856, -527, -1665, 63, 399, 6,
            -15});
        check.frame("to 32767", limit, Check.words(0x7f7f, 0x7f00, 0x2c30, 0xb000),
            -2025, 31411, -1975, 30435, -1682, 30492);
    }

    private static void impulseBackwardTooSmall() {
        CelpSpeechCodec codec = Check.encoded(6, new int[] {41, 43, -1028, -954, 3852, 4534, -7354, -11749, 8776,
            21172, -5790, -29201, -1493, 32082, 10173, -28326, -16231, 19719, 17075, -10172, -13097, 3247, 7151, -179,
            -2414, -242, 304, 19});
        check.frame("impulse", codec, Check.words(0x7f7f, 0x7f00, 0x0413, 0xd000),
            -4359, 31411, -4287, 30429, -4165, 30412);
        CelpSpeechCodec limit = Check.encoded(6, new int[] {39, 42, -984, -928, 3677, 4402, -6964, -11380, 8165, 20437,
            -5063, -28052, -2152, 30611, 10581, -26760, -16304, 18338, 16873, -9185, -12788, 2705, 6905, 24, -2302,
            -282, 285, 20});
        check.frame("to -32768", limit, Check.words(0x7f7f, 0x7e00, 0x0413, 0xd000),
            -4422, 31410, -4337, 30374, -3863, 28991);
    }
}
