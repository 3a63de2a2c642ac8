// The boundary cases of promise 7 from step E6 on, a test for each sentence. The frames that are not
// worked by hand were worked by a program written apart from this one, in another language; each was
// chosen because its answer changes if the sentence is broken.
public final class SearchBoundaryTest {
    private static final Check check = new Check();

    public static void main(String[] args) {
        check.sentence("7 E6: li = 0..31: the first", SearchBoundaryTest::firstLag);
        check.sentence("7 E6: li = 0..31: the last", SearchBoundaryTest::lastLag);
        check.sentence("7 E6: ga = 0..7: the last", SearchBoundaryTest::lastAdaptiveGain);
        check.sentence("7 E6: v is formed as in D1: a lag shorter than the frame", SearchBoundaryTest::shortLag);
        check.sentence("7 E6: y[n] = sat16: too large", SearchBoundaryTest::filteredTooLarge);
        check.sentence("7 E6: y[n] = sat16: too small", SearchBoundaryTest::filteredTooSmall);
        check.sentence("7 E6: the sum in long", SearchBoundaryTest::filterSumIsWide);
        check.sentence("7 E6: 2048 added once after the sum", SearchBoundaryTest::roundedOnce);
        check.sentence("7 E6: Ea (long)", SearchBoundaryTest::adaptiveErrorIsWide);
        check.sentence("7 E6: The first candidate with the least Ea: an empty history", SearchBoundaryTest::allLagsTie);
        check.sentence("7 E6: The first candidate with the least Ea: two lags alike", SearchBoundaryTest::twoLagsTie);
        check.sentence("7 E6: For li (outer) and ga (inner)", SearchBoundaryTest::lagGoesBeforeGain);
        check.sentence("7 E7: With y of the chosen lag", SearchBoundaryTest::chosenLagIsTakenAway);
        check.sentence("7 E7: x2[n] = sat16: too large", SearchBoundaryTest::secondTargetTooLarge);
        check.sentence("7 E7: x2[n] = sat16: too small", SearchBoundaryTest::secondTargetTooSmall);
        check.sentence("7 E8: p = 0..T-1: the first and the last", SearchBoundaryTest::firstAndLastSlots);
        check.sentence("7 E8: gi = 0..15: the first", SearchBoundaryTest::firstPulseGain);
        check.sentence("7 E8: gi = 0..15: the last", SearchBoundaryTest::lastPulseGain);
        check.sentence("7 E8: counting only pulses with pos <= n", SearchBoundaryTest::pulseInTheLastPlace);
        check.sentence("7 E8: z[n] is not saturated: above 32767", SearchBoundaryTest::pulseSumAbove);
        check.sentence("7 E8: z[n] is not saturated: below -32768", SearchBoundaryTest::pulseSumBelow);
        check.sentence("7 E8: Ef (long)", SearchBoundaryTest::pulseErrorIsWide);
        check.sentence("7 E8: The first candidate with the least Ef: nothing to code", SearchBoundaryTest::allPulsesTie);
        check.sentence("7 E8: The first candidate with the least Ef: two slots alike", SearchBoundaryTest::slotsTie);
        check.sentence("7 E8: The first candidate with the least Ef: both signs alike", SearchBoundaryTest::signsTie);
        check.sentence("7 E8: The first candidate with the least Ef: two gains alike", SearchBoundaryTest::gainsTie);
        check.sentence("7 E8: Candidates run with p outermost, then sign", SearchBoundaryTest::slotGoesBeforeSign);
        check.sentence("7 E8: Candidates run with p outermost, gi after it", SearchBoundaryTest::slotGoesBeforeGain);
        check.sentence("7 E8: Candidates run with sign before gi", SearchBoundaryTest::signGoesBeforeGain);
        check.sentence("7 E8: The gi chosen at track 3 becomes gf", SearchBoundaryTest::lastTrackGivesTheGain);
        check.sentence("7 E9: words past B bits are 0", SearchBoundaryTest::noBitsPastTheFrame);
        check.sentence("7 E11: cnt becomes 0", SearchBoundaryTest::pendingBecomesZero);
        check.sentence("7: every slot is below T", SearchBoundaryTest::slotsStayBelow);
        check.sentence("7: the pending samples are gone", SearchBoundaryTest::pendingSamplesAreGone);
        check.sentence("7: The decoder side is not changed at all", SearchBoundaryTest::decoderSideStays);
        check.sentence("7: The encoder frame count grows by 1", SearchBoundaryTest::countGrowsByOne);
        check.finish();
    }

    private static void firstLag() {
        CelpSpeechCodec codec = Check.encoded(2, new int[] {57, -519, -684, 209, -208, -611, -463, 523},
            new int[] {-47, -119, 52, 167, 149, 150, 55, 64});
        check.due("lag index", codec.getField(0, 0), 0);
        check.due("ga", codec.getField(0, 1), 1);
        check.frame("first lag", codec, Check.words(0x3901, 0x1203, 0x9000, 0), -22254, 10644);
        check.excitation("first lag", codec, 0, -182, 0, 182, -74, 74, 256, -74, -330);
    }

    private static void lastLag() {
        CelpSpeechCodec codec = Check.encoded(2, new int[] {389, 0, 0, 0, 0, -389, 1559, 0, 0, 0, 0, 389},
            new int[] {0, 0, 0, 0, 0, 0, 0, 0, 0, 0, 0, 0},
            new int[] {0, 62, 0, 0, 0, -248, 0, 62, 0, 186, 0, 248});
        check.due("lag index", codec.getField(0, 0), 31);
        check.due("ga", codec.getField(0, 1), 2);
        check.frame("last lag", codec, Check.words(0x76fa, 0x4352, 0x7000, 0), 0, -8382);
        check.excitation("last lag", codec, 0, 209, -128, 0, 128, 128, 0, -128, 0, 0, 0, 0, 0);
    }

    private static void lastAdaptiveGain() {
        CelpSpeechCodec codec = Check.encoded(2,
            new int[] {22000, 22000, 22000, 22000, 22000, 22000, 22000, 22000},
            new int[] {0, 0, 0, 0, 0, 0, 0, 20000});
        check.due("ga", codec.getField(0, 1), 7);
        check.frame("last gain", codec, Check.words(0x774f, 0x1132, 0xf000, 0), 0, 0);
        check.excitation("last gain", codec, 0, 4120, 24, 2072, 0, 0, 0, -2048, -2048);
    }

    // Lag 6 in a frame of 8: the last two samples of v are the first two again.
    private static void shortLag() {
        CelpSpeechCodec codec = Check.encoded(2, new int[] {2, -84, 1551, -10828, 28606, -28606, 10828, -1551},
            new int[] {28190, -31039, 32570, -32570, 31039, -28190, 24398, -20124});
        check.due("lag index", codec.getField(0, 0), 2);
        check.frame("lag 6", codec, Check.words(0xe917, 0x0101, 0xf000, 0), 29674, 7159);
        check.excitation("lag 6", codec, 0, -2072, 2072, 0, 0, -2048, 4120, -4120, 4120);
        check.outputs("lag 6", codec, 0, 4403, -8824, 13035, -14578, 13143, -11073, 11164, -11838);
    }

    private static void filteredTooLarge() {
        CelpSpeechCodec codec = Check.encoded(5, new int[] {1086, -4450, -4212, 23648, -22984, 3204, 4774, -1084},
            new int[] {1310, -8588, 20172, -27661, 24933, -14655, 4894, -552});
        check.frame("y too large", codec, Check.words(0xedcc, 0xb1e3, 0x223e, 0), 29096, 26431, 24339, 22072, 17813);
    }

    private static void filteredTooSmall() {
        CelpSpeechCodec codec = Check.encoded(5, new int[] {1127, -4866, -2821, 22897, -25631, 7099, 3351, -1094},
            new int[] {157, -1033, 2436, -3363, 3062, -1828, 625, -73});
        check.frame("y too small", codec, Check.words(0xedcc, 0xb1a0, 0x2229, 0), 29126, 26488, 24427, 22216, 18016);
    }

    // Eight loud frames alike raise the excitation until its filtered sum leaves 32 bits.
    private static void filterSumIsWide() {
        CelpSpeechCodec codec = new CelpSpeechCodec(5, 16);
        for (int frame = 0; frame < 8; frame++) {
            Check.putAll(codec, 0, 32767, -32767, 0, 0, -32767, -32767, 0, 0, 32767, -32767, -32767, 32767, 32767, 0, 0);
            codec.encodeFrame();
        }
        Check.putAll(codec, 203, -1524, 4529, -8849, 13250, -16149, 16337, -13548, 8612, -3108, -1311, 3609, -3727,
            2473, -1002, 155);
        codec.encodeFrame();
        check.frame("ninth frame", codec, Check.words(0xfeed, 0xe0c3, 0x077c, 0), 30563, 30205, 29083, 27542, 28968);
    }

    private static void roundedOnce() {
        CelpSpeechCodec none = Check.encoded(2, new int[] {57, -519, -684, 209, -208, -611, -463, 523},
            new int[] {-47, -119, 52, 167, 149, 150, 55, 64});
        check.frame("not left out", none, Check.words(0x3901, 0x1203, 0x9000, 0), -22254, 10644);
        CelpSpeechCodec each = Check.encoded(2, new int[] {449, -1586, -3158, 10650, -6694, -2396, 2904, -318});
        check.frame("not at each term", each, Check.words(0xab00, 0x0310, 0xf000, 0), 16360, 20629);
        CelpSpeechCodec below = Check.encoded(2, new int[] {7, 10, 14, -37, -28, -27, 15, -35},
            new int[] {335, 336, 687, -794, -439, 744, 660, -979});
        check.frame("down, below 0", below, Check.words(0x8b1f, 0x3201, 0xb000, 0), 3167, 18881);
    }

    private static void adaptiveErrorIsWide() {
        CelpSpeechCodec codec = Check.encoded(2, new int[] {368, 0, 0, 0, 0, 0, 0, 0},
            new int[] {0, 0, 0, -4500, 9000, 0, 0, 0});
        check.frame("Ea above 2^31", codec, Check.words(0xa92f, 0x2201, 0xf000, 0), 13107, 6241);
    }

    private static void allLagsTie() {
        for (int length = 8; length <= 32; length += 4) {
            CelpSpeechCodec codec = new CelpSpeechCodec(2, length);
            Check.putRepeated(codec, 9000, length);
            codec.encodeFrame();
            check.due("lag index of the first frame", codec.getField(0, 0), 0);
            check.due("ga of the first frame", codec.getField(0, 1), 0);
            check.due("gf of the first frame", codec.getField(0, 2), 15);
        }
    }

    // Lag index 7 at ga 7 has the same error as lag index 1 at ga 7.
    private static void twoLagsTie() {
        CelpSpeechCodec codec = Check.encoded(2, new int[] {0, 25700, 0, 0, 0, 0, 0, 25700},
            new int[] {0, 24300, 0, 0, 24300, 0, 0, 0});
        check.due("lag index", codec.getField(0, 0), 1);
        check.frame("two lags alike", codec, Check.words(0x770f, 0x2001, 0xf000, 0), 0, 0);
        check.excitation("two lags alike", codec, 0, 0, 0, 0, 4120, 24, 2048, 2048, 0);
    }

    // The frame before last has the same pulses as the last one, twice as strong: lag 8 at ga 4 ties
    // with lag 16 at ga 2, and comes first.
    private static void lagGoesBeforeGain() {
        CelpSpeechCodec codec = Check.encoded(2, new int[] {-512, 473, -895, 317, -714, 208, -575, -386},
            new int[] {-61, 591, -1125, 1081, -785, 452, -190, -423},
            new int[] {86, 209, -366, 221, -108, 47, -23, -212});
        check.excitation("the past", codec, 0, -222, 0, 0, 0, 0, -222, 222, -222, -444, 0, 0, 0, 0, -444, 444, -444);
        Check.putAll(codec, -280, -5, -73, -75, -45, -14, 6, -181);
        codec.encodeFrame();
        check.due("lag index", codec.getField(0, 0), 4);
        check.due("ga", codec.getField(0, 1), 4);
        check.frame("lag before gain", codec, Check.words(0x7624, 0x1101, 0x5000, 0), -2653, -7052);
        check.excitation("lag before gain", codec, 0, -128, 0, 0, 0, -64, -64, 64, -192);
    }

    private static void chosenLagIsTakenAway() {
        CelpSpeechCodec codec = Check.encoded(2, new int[] {284, -1762, 3428, -3073, 696, 1205, -1114, 239},
            new int[] {0, 0, 0, 0, 0, 0, 0, -838});
        check.frame("second frame", codec, Check.words(0x7703, 0, 0x7000, 0), 0, 0);
        CelpSpeechCodec rounded = Check.encoded(2, new int[] {5597, 5597, 5597, 5597, 0, 0, 0, 0},
            new int[] {159, 244, -2312, -2446, 2272, 2376, -183, -159});
        check.frame("rounded", rounded, Check.words(0x6b45, 0x0112, 0xe000, 0), -6713, 21121);
    }

    private static void secondTargetTooLarge() {
        CelpSpeechCodec codec = Check.encoded(2,
            new int[] {20814, -15787, 28961, -20856, -5818, -28848, 6031, -11358},
            new int[] {-32767, 32767, -32767, 0, -32767, 0, 32767, 0});
        check.frame("x2 too large", codec, Check.words(0xa71f, 0x1010, 0xf000, 0), 13107, -1559);
    }

    private static void secondTargetTooSmall() {
        CelpSpeechCodec codec = Check.encoded(2, new int[] {-32767, 0, -32767, 0, -32767, 0, -32767, 32767},
            new int[] {-32767, 32767, 0, 32767, 0, -32767, -32767, 0});
        check.frame("x2 too small", codec, Check.words(0x7717, 0x1030, 0xf000, 0), 0, 0);
    }

    // One loud sample on a track draws the track's pulse to itself, with the sample's sign.
    private static void firstAndLastSlots() {
        for (int length = 8; length <= 32; length += 4) {
            for (int track = 0; track < 4; track++) {
                pulseFollows(length, track, 0, 1);
                pulseFollows(length, track, length / 4 - 1, 1);
                pulseFollows(length, track, length / 4 - 1, -1);
            }
        }
    }

    private static void pulseFollows(int length, int track, int slot, int sign) {
        int[] frame = new int[length];
        frame[track + 4 * slot] = sign * 2000;
        CelpSpeechCodec codec = Check.encoded(2, frame);
        String name = "track " + track + " of length " + length;
        check.due(name + ": slot", codec.getField(0, 3 + track), slot);
        check.due(name + ": sign", codec.getField(0, 7 + track), sign > 0 ? 0 : 1);
    }

    private static void firstPulseGain() {
        CelpSpeechCodec codec = Check.encoded(2, new int[] {1, 0, 1, 2, -2, 1, 1, 2});
        check.frame("too quiet for a pulse", codec, Check.words(0x8700, 0, 0, 0), 2047, -1927);
        check.due("gf", codec.getField(0, 2), 0);
        check.outputs("too quiet for a pulse", codec, 0, 0, 0, 0, 0, 0, 0, 0, 0);
    }

    private static void lastPulseGain() {
        CelpSpeechCodec codec = Check.encoded(2, new int[] {0, 0, 0, 7000, 7000, 7000, 7000, 7000});
        check.frame("louder than the pulses", codec, Check.words(0x2800, 0x2200, 0xf000, 0), -26214, 3641);
        check.due("gf", codec.getField(0, 2), 15);
        check.outputs("louder than the pulses", codec, 0, 0, 0, 2048, 3907, 5389, 6548, 5403, 4249);
    }

    // A pulse acts from its own place on: in the last place it acts once, and not at all before.
    private static void pulseInTheLastPlace() {
        CelpSpeechCodec codec = Check.encoded(2, new int[] {20872, 0, 0, 0, 0, 0, 0, 0});
        check.due("slot of track 0", codec.getField(0, 3), 0);
        check.due("sign of track 0", codec.getField(0, 7), 0);
        check.due("the pulse acts in place 0", codec.getOutput(0, 0), 2048);
        CelpSpeechCodec last = Check.encoded(2, new int[] {0, 0, 0, 0, 0, 0, 0, -20872});
        check.due("slot of track 3", last.getField(0, 6), 1);
        check.due("sign of track 3", last.getField(0, 10), 1);
        check.due("X(1) is the pulse", last.getExcitation(0, 1), -2048);
    }

    private static void pulseSumAbove() {
        CelpSpeechCodec codec = Check.encoded(2, new int[] {9855, 18311, 23819, 25499, 23328, 18135, 11386, 4816});
        check.frame("z above", codec, Check.words(0x0d00, 0, 0xf000, 0), -30653, 26368);
        check.outputs("z above", codec, 0, 2048, 5599, 10066, 14881, 17496, 18057, 16872, 14356);
    }

    private static void pulseSumBelow() {
        CelpSpeechCodec codec = Check.encoded(2, new int[] {11206, -20735, 26627, -27851, 24557, -18028, 10318, -3689});
        check.frame("z below", codec, Check.words(0xfd00, 0x0101, 0xf000, 0), 30524, 26320);
        check.outputs("z below", codec, 0, 2048, -5599, 10066, -14881, 17496, -18057, 16872, -14356);
    }

    private static void pulseErrorIsWide() {
        CelpSpeechCodec codec = Check.encoded(2, new int[] {0, 0, 0, 0, 32000, 32000, 32000, 32000});
        check.frame("Ef above 2^31", codec, Check.words(0x3800, 0x2220, 0xf000, 0), -24576, 4681);
    }

    private static void allPulsesTie() {
        for (int order = 2; order <= 6; order++) {
            for (int length = 8; length <= 32; length += 4) {
                CelpSpeechCodec codec = new CelpSpeechCodec(order, length);
                Check.putRepeated(codec, 0, length);
                codec.encodeFrame();
                for (int kind = 0; kind < 11; kind++) {
                    check.due("kind " + kind + " of silence", codec.getField(0, kind), 0);
                }
            }
        }
    }

    // Two samples alike, so far apart that the pulses don't touch: slots 0 and 3 of track 0 tie.
    private static void slotsTie() {
        int[] frame = new int[24];
        frame[0] = 520;
        frame[12] = 520;
        CelpSpeechCodec codec = Check.encoded(2, frame);
        check.due("slot of track 0", codec.getField(0, 3), 0);
        check.frame("slots alike", codec, Check.words(0x7700, 0x0144, 0x7000, 0), 0, 0);
    }

    // All is coded near place 0, so the pulse of track 2 disturbs as much with either sign.
    private static void signsTie() {
        int[] frame = new int[32];
        frame[0] = -22630;
        CelpSpeechCodec codec = Check.encoded(4, frame);
        check.due("slot of track 2", codec.getField(0, 5), 7);
        check.due("sign of track 2", codec.getField(0, 9), 0);
        check.frame("signs alike", codec, Check.words(0x7777, 0x0010, 0xedf0, 0), 0, 0, 0, 0);
    }

    // At track 3, the amplitudes 64 and 91 have exactly the same error.
    private static void gainsTie() {
        CelpSpeechCodec codec = Check.encoded(2, new int[] {-117, 24, 111, 98, 48, 41, 75, -35});
        check.due("gf", codec.getField(0, 2), 5);
        check.frame("gains alike", codec, Check.words(0x5800, 0x1000, 0x5000, 0), -12442, 4807);
    }

    // Slot 0 with sign 1 ties with slot 4 with sign 0, and comes first.
    private static void slotGoesBeforeSign() {
        int[] frame = new int[32];
        frame[0] = -2000;
        frame[16] = 2000;
        CelpSpeechCodec codec = Check.encoded(2, frame);
        check.due("slot of track 0", codec.getField(0, 3), 0);
        check.due("sign of track 0", codec.getField(0, 7), 1);
        check.frame("slot before sign", codec, Check.words(0x7700, 0x1066, 0xb000, 0), 0, 0);
    }

    // At track 3, slot 0 at gi 11 ties with slot 1 at gi 9; then slot 0 at gi 15 with slot 1 at gi 13.
    private static void slotGoesBeforeGain() {
        CelpSpeechCodec plus = Check.encoded(2, new int[] {-288, 459, -130, -150, 497, -374, 41, 340});
        check.due("slot of track 3", plus.getField(0, 6), 0);
        check.due("gf", plus.getField(0, 2), 11);
        check.frame("slot before gain", plus, Check.words(0xab00, 0x2000, 0xb000, 0), 16993, 19909);
        CelpSpeechCodec minus = Check.encoded(2, new int[] {1042, -786, -1942, 76, -1970, 2046, -1959, 1654});
        check.due("slot of track 3", minus.getField(0, 6), 0);
        check.due("gf", minus.getField(0, 2), 15);
        check.frame("slot before gain", minus, Check.words(0xb600, 0x3211, 0xf000, 0), 17700, -7520);
    }

    // At track 3, sign 0 at gi 11 ties with sign 1 at gi 9 in the same slot.
    private static void signGoesBeforeGain() {
        CelpSpeechCodec codec = Check.encoded(2, new int[] {-182, -112, 398, -311, 441, -993, 762, -620});
        check.due("sign of track 3", codec.getField(0, 10), 0);
        check.due("gf", codec.getField(0, 2), 11);
        check.frame("sign before gain", codec, Check.words(0xd800, 0x2300, 0xb000, 0), 26148, 5876);
    }

    private static void lastTrackGivesTheGain() {
        CelpSpeechCodec first = Check.encoded(2, new int[] {74, 421, 327, -463, -467, -278, -631, -467});
        check.frame("not of track 0", first, Check.words(0x4900, 0x3031, 0xa000, 0), -19294, 9248);
        check.due("gf", first.getField(0, 2), 10);
        CelpSpeechCodec third = Check.encoded(2, new int[] {424, 2815, 6868, 10058, 9998, 6748, 2733, 407});
        check.frame("not of track 2", third, Check.words(0x1d00, 0, 0xe000, 0), -29341, 26901);
        check.due("gf", third.getField(0, 2), 14);
    }

    private static void noBitsPastTheFrame() {
        for (int order = 2; order <= 6; order++) {
            CelpSpeechCodec codec = new CelpSpeechCodec(order, 32);
            for (int frame = 0; frame < 20; frame++) {
                for (int n = 0; n < 32; n++) {
                    codec.putSample((n * n * 331 + frame * 977) % 4001 - 2000);
                }
                codec.encodeFrame();
                for (int bit = codec.getBitCount(); bit < 64; bit++) {
                    int value = codec.getWord(bit / 16) >> (15 - bit % 16) & 1;
                    check.due("stream bit " + bit + " of order " + order, value, 0);
                }
            }
        }
    }

    private static void pendingBecomesZero() {
        for (int length = 8; length <= 32; length += 4) {
            CelpSpeechCodec codec = new CelpSpeechCodec(2, length);
            Check.putRepeated(codec, 300, length + 9);
            check.due("encodeFrame()", codec.encodeFrame(), true);
            check.due("getPending()", codec.getPending(), 0);
        }
    }

    private static void slotsStayBelow() {
        for (int length = 8; length <= 32; length += 4) {
            CelpSpeechCodec codec = new CelpSpeechCodec(3, length);
            for (int frame = 0; frame < 30; frame++) {
                for (int n = 0; n < length; n++) {
                    codec.putSample((n * 7919 + frame * frame * 104729) % 60013 - 30006);
                }
                codec.encodeFrame();
                for (int track = 0; track < 4; track++) {
                    int slot = codec.getField(0, 3 + track);
                    check.due("slot " + slot + " below T at " + length, slot >= 0 && slot < length / 4, true);
                }
            }
        }
    }

    // The next frame takes N samples anew, and none of the old ones comes back.
    private static void pendingSamplesAreGone() {
        CelpSpeechCodec codec = new CelpSpeechCodec(2, 8);
        Check.putRepeated(codec, 0, 7);
        codec.putSample(1);
        codec.encodeFrame();
        for (int n = 0; n < 8; n++) {
            check.due("encodeFrame() with " + n + " new samples", codec.encodeFrame(), false);
            codec.putSample(n == 3 || n == 4 ? 1000 : 0);
        }
        check.due("encodeFrame() with 8 new samples", codec.encodeFrame(), true);
        check.due("k1 of the new samples alone", codec.getRawReflection(1), -16384);
        check.due("k2 of the new samples alone", codec.getRawReflection(2), 10922);
    }

    // One of two codecs alike also encodes, before the first decoded frame and between the others.
    private static void decoderSideStays() {
        for (int order = 2; order <= 6; order++) {
            CelpSpeechCodec codec = new CelpSpeechCodec(order, 16);
            CelpSpeechCodec alone = new CelpSpeechCodec(order, 16);
            CelpSpeechCodec sender = new CelpSpeechCodec(order, 16);
            for (int frame = 0; frame < 20; frame++) {
                for (int n = 0; n < 16; n++) {
                    codec.putSample((n * n * 331 + frame * 977) % 16001 - 8000);
                    sender.putSample((n * 2003 + frame * 317) % 9001 - 4500);
                }
                check.due("encodeFrame()", codec.encodeFrame(), true);
                check.same("decoder side after a frame", Check.viewOfSide(codec, 1), Check.viewOfSide(alone, 1));
                sender.encodeFrame();
                codec.decodeFrame(sender.getWord(0), sender.getWord(1), sender.getWord(2), sender.getWord(3));
                alone.decodeFrame(sender.getWord(0), sender.getWord(1), sender.getWord(2), sender.getWord(3));
                check.same("decoding goes on", Check.viewOfSide(codec, 1), Check.viewOfSide(alone, 1));
            }
        }
    }

    private static void countGrowsByOne() {
        CelpSpeechCodec codec = new CelpSpeechCodec(2, 8);
        for (int frame = 1; frame <= 300; frame++) {
            Check.putRepeated(codec, frame, 8);
            codec.encodeFrame();
            check.due("getFrameCount(0)", codec.getFrameCount(0), frame);
            check.due("getFrameCount(1)", codec.getFrameCount(1), 0);
        }
    }
}
