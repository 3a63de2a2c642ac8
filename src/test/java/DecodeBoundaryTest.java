import java.util.Arrays;

// The boundary cases of promise 12, of rule D and of the lattice step, a test for each sentence.
// At order 2, W0 holds q1, q2, lag index and ga, W1 the slots and signs, and W2 begins with gf.
public final class DecodeBoundaryTest {
    private static final int[] TOPS = {0xffff0000, 0x80000000, 0x7fff0000, 0x00010000};
    private static final Check check = new Check();

    public static void main(String[] args) {
        check.sentence("12: Each wi is first cut to its low 16 bits", DecodeBoundaryTest::highBitsAreCut);
        check.sentence("12: any int value is accepted, negative ones included", DecodeBoundaryTest::anyIntIsAccepted);
        check.sentence("12: Stream bits at i >= B are ignored", DecodeBoundaryTest::bitsPastTheFrameAreIgnored);
        check.sentence("12: bits at i < B are not ignored", DecodeBoundaryTest::bitsOfTheFrameCount);
        check.sentence("12: If any slot_t >= T: answers false", DecodeBoundaryTest::slotsTooGreatAreRefused);
        check.sentence("12: slot_t >= T: changes nothing", DecodeBoundaryTest::refusedFrameChangesNothing);
        check.sentence("12: slot_t >= T: changes nothing before a first frame", DecodeBoundaryTest::refusedFirstFrame);
        check.sentence("12: slot_t >= T: no trace in later frames", DecodeBoundaryTest::refusedFrameLeavesNoTrace);
        check.sentence("12: When T is 8, every 3-bit slot is below T", DecodeBoundaryTest::longestFrameTakesEverySlot);
        check.sentence("12: Otherwise: the fields are stored, the least and the greatest", DecodeBoundaryTest::extremeFields);
        check.sentence("12: The decoder frame count grows by 1", DecodeBoundaryTest::countGrowsByOne);
        check.sentence("12: The encoder side is never changed", DecodeBoundaryTest::encoderSideStays);
        check.sentence("12: getWord(0..3) of the same object never answers false", DecodeBoundaryTest::ownWordsDecode);
        check.sentence("12: getWord(0..3) before any frame", DecodeBoundaryTest::wordsBeforeAnyFrame);
        check.sentence("12: agreement at frame counts 0 and 0", DecodeBoundaryTest::sidesAgreeAtFirst);
        check.sentence("12: agreement over refused calls", DecodeBoundaryTest::sidesAgreeOverRefusedCalls);
        check.sentence("12: agreement over late decoding", DecodeBoundaryTest::sidesAgreeWhenLate);
        check.sentence("12: agreement at full scale", DecodeBoundaryTest::sidesAgreeAtFullScale);
        check.sentence("D1: the shortest lag, v[n-L]", DecodeBoundaryTest::shortestLag);
        check.sentence("D1: a lag of N-1, of N and of N+1", DecodeBoundaryTest::lagsAroundTheFrameLength);
        check.sentence("D1: the longest lag", DecodeBoundaryTest::longestLag);
        check.sentence("D1: X is the history as it was before this frame", DecodeBoundaryTest::oldHistoryOnly);
        check.sentence("D3: u[n] = sat16: too large", DecodeBoundaryTest::excitationTooLarge);
        check.sentence("D3: u[n] = sat16: too small", DecodeBoundaryTest::excitationTooSmall);
        check.sentence("D3: sat16 of the whole sum, not of its parts", DecodeBoundaryTest::onlyTheSumIsCut);
        check.sentence("D3: >> 8 rounds toward minus infinity", DecodeBoundaryTest::excitationRoundsDown);
        check.sentence("Lattice step: f = sat16: too large", DecodeBoundaryTest::forwardTooLarge);
        check.sentence("Lattice step: f = sat16: too small", DecodeBoundaryTest::forwardTooSmall);
        check.sentence("Lattice step: b[j] = sat16: too large", DecodeBoundaryTest::backwardTooLarge);
        check.sentence("Lattice step: b[j] = sat16: too small", DecodeBoundaryTest::backwardTooSmall);
        check.sentence("Lattice step: if j < P, no cell past b[P-1]", DecodeBoundaryTest::lastStageKeepsNoCell);
        check.sentence("D5: new X(j) = u[N-j] for j = 1..N", DecodeBoundaryTest::newExcitationGoesFirst);
        check.sentence("D5: new X(j) = old X(j-N) for j = N+1..64", DecodeBoundaryTest::oldExcitationMovesOn);
        check.finish();
    }

    private static boolean decode(CelpSpeechCodec codec, int[] words) {
        return codec.decodeFrame(words[0], words[1], words[2], words[3]);
    }

    private static CelpSpeechCodec decoded(int order, int length, int[]... frames) {
        CelpSpeechCodec codec = new CelpSpeechCodec(order, length);
        for (int[] words : frames) {
            check.due("decodeFrame", decode(codec, words), true);
        }
        return codec;
    }

    private static void highBitsAreCut() {
        int[] plain = {0x6e59, 0x9c37, 0xb4f1, 0xd2a8};
        for (int order = 2; order <= 6; order++) {
            int[] due = Check.viewOfAll(decoded(order, 32, plain, plain));
            for (int i = 0; i < 4; i++) {
                for (int top : TOPS) {
                    int[] wide = plain.clone();
                    wide[i] |= top;
                    int[] got = Check.viewOfAll(decoded(order, 32, wide, wide));
                    check.same("word " + i + " with high bits, order " + order, got, due);
                }
            }
        }
    }

    private static void anyIntIsAccepted() {
        int[] all = Check.viewOfAll(decoded(6, 32, Check.words(65535, 65535, 65535, 65535)));
        int[] none = Check.viewOfAll(decoded(6, 32, Check.words(0, 0, 0, 0)));
        int max = Integer.MAX_VALUE;
        int min = Integer.MIN_VALUE;
        check.same("words of -1", Check.viewOfAll(decoded(6, 32, Check.words(-1, -1, -1, -1))), all);
        check.same("greatest ints", Check.viewOfAll(decoded(6, 32, Check.words(max, max, max, max))), all);
        check.same("least ints", Check.viewOfAll(decoded(6, 32, Check.words(min, min, min, min))), none);
        check.same("words of 65536", Check.viewOfAll(decoded(6, 32, Check.words(65536, -65536, 65536, -65536))), none);
    }

    private static boolean bitShows(int order, int bit) {
        int[] plain = {0x6e59, 0x9c37, 0xb4f1, 0xd2a8};
        int[] flipped = plain.clone();
        flipped[bit / 16] ^= 1 << (15 - bit % 16);
        int[] one = Check.viewOfAll(decoded(order, 32, plain, plain));
        int[] other = Check.viewOfAll(decoded(order, 32, flipped, flipped));
        return !Arrays.equals(one, other);
    }

    private static void bitsPastTheFrameAreIgnored() {
        for (int order = 2; order <= 6; order++) {
            for (int bit = 4 * order + 28; bit < 64; bit++) {
                check.due("bit " + bit + " shows at order " + order, bitShows(order, bit), false);
            }
        }
        // In a frame of 8, these bits would be slots too great if they were looked at.
        check.due("bits past the frame are not slots", new CelpSpeechCodec(2, 8).decodeFrame(0, 0, 0x0fff, -1), true);
    }

    private static void bitsOfTheFrameCount() {
        for (int order = 2; order <= 6; order++) {
            for (int bit = 0; bit < 4 * order + 28; bit++) {
                check.due("bit " + bit + " shows at order " + order, bitShows(order, bit), true);
            }
        }
    }

    private static void slotsTooGreatAreRefused() {
        for (int order = 2; order <= 6; order++) {
            for (int length = 8; length <= 32; length += 4) {
                for (int track = 0; track < 4; track++) {
                    for (int slot = 0; slot < 8; slot++) {
                        CelpSpeechCodec codec = new CelpSpeechCodec(order, length);
                        long slots = (long) slot << (17 - 4 * track + 36 - 4 * order);
                        boolean answer = codec.decodeFrame((int) (slots >> 48), (int) (slots >> 32),
                            (int) (slots >> 16), (int) slots);
                        String name = "slot " + slot + " of track " + track + ", " + order + ", " + length;
                        check.due(name, answer, slot < length / 4);
                        check.due(name + " counts", codec.getFrameCount(1), slot < length / 4 ? 1 : 0);
                    }
                }
            }
        }
    }

    private static void refusedFrameChangesNothing() {
        for (int length = 8; length <= 28; length += 4) {
            int of = length;
            for (int track = 0; track < 4; track++) {
                int slots = length / 4 << (13 - 4 * track);
                check.changesNothing("slot T", () -> Check.busy(2, of), codec ->
                    check.due("slot T", codec.decodeFrame(0x5a5b, slots | 0x0101, 0xf000, 0), false));
            }
            check.changesNothing("all slots 7", () -> Check.busy(2, of), codec ->
                check.due("all slots 7", codec.decodeFrame(0x5a5b, 0xffff, 0xf000, 0), false));
        }
    }

    private static void refusedFirstFrame() {
        CelpSpeechCodec codec = new CelpSpeechCodec(4, 12);
        int[] before = Check.viewOfAll(codec);
        check.due("a first frame refused", codec.decodeFrame(-1, -1, -1, -1), false);
        check.same("view after it", Check.viewOfAll(codec), before);
        check.due("getReflection(1, 1)", codec.getReflection(1, 1), 0);
    }

    private static void refusedFrameLeavesNoTrace() {
        CelpSpeechCodec asked = new CelpSpeechCodec(2, 8);
        CelpSpeechCodec plain = new CelpSpeechCodec(2, 8);
        for (int frame = 0; frame < 12; frame++) {
            int[] words = {0x93ad ^ frame * 0x1357, 0x0121, 0x7000 + frame * 0x1000, 0};
            asked.decodeFrame(0x5a5b, 0x4000, 0xf000, 0);
            decode(asked, words);
            asked.decodeFrame(0xffff, 0x000e, 0xf000, 0);
            decode(plain, words);
            check.same("after frame " + frame, Check.viewOfAll(asked), Check.viewOfAll(plain));
        }
    }

    private static void longestFrameTakesEverySlot() {
        for (int slots = 0; slots < 4096; slots++) {
            int word = (slots & 7) << 13 | (slots >> 3 & 7) << 9 | (slots >> 6 & 7) << 5 | (slots >> 9) << 1;
            CelpSpeechCodec codec = new CelpSpeechCodec(2, 32);
            check.due("slots " + Integer.toOctalString(slots), codec.decodeFrame(0, word, 0, 0), true);
        }
    }

    private static void extremeFields() {
        CelpSpeechCodec great = decoded(6, 32, Check.words(-1, -1, -1, -1));
        CelpSpeechCodec small = decoded(6, 32, Check.words(-1, -1, -1, -1), Check.words(0, 0, 0, 0));
        int[] greatest = {31, 7, 15, 7, 7, 7, 7, 1, 1, 1, 1, 15, 15, 15, 15, 15, 15};
        for (int kind = 0; kind < 17; kind++) {
            check.due("greatest kind " + kind, great.getField(1, kind), greatest[kind]);
            check.due("least kind " + kind, small.getField(1, kind), 0);
        }
        for (int m = 1; m <= 6; m++) {
            check.due("greatest c" + m, great.getReflection(1, m), 31130);
            check.due("least c" + m, small.getReflection(1, m), -31130);
        }
    }

    private static void countGrowsByOne() {
        CelpSpeechCodec codec = new CelpSpeechCodec(2, 8);
        for (int frame = 1; frame <= 70000; frame++) {
            codec.decodeFrame(frame, 0, 0, 0);
            check.due("getFrameCount(1)", codec.getFrameCount(1), frame);
        }
        check.due("getFrameCount(0)", codec.getFrameCount(0), 0);
    }

    // One of two codecs alike also decodes: frames of a third codec, and frames that are refused.
    private static void encoderSideStays() {
        for (int order = 2; order <= 6; order++) {
            CelpSpeechCodec codec = new CelpSpeechCodec(order, 12);
            CelpSpeechCodec alone = new CelpSpeechCodec(order, 12);
            CelpSpeechCodec sender = new CelpSpeechCodec(order, 12);
            for (int time = 0; time < 120; time++) {
                codec.putSample(time * time * 37 % 9001 - 4500);
                alone.putSample(time * time * 37 % 9001 - 4500);
                codec.encodeFrame();
                alone.encodeFrame();
                Check.putAll(sender, 900, -time, 70 * time, -4000, 30, 2, 8000, -700 * time, 15, 600, -20, 5);
                sender.encodeFrame();
                boolean taken = codec.decodeFrame(sender.getWord(0), sender.getWord(1), sender.getWord(2),
                    sender.getWord(3));
                check.due("frame of another codec", taken, true);
                check.same("encoder side after a frame", Check.viewOfEncoder(codec), Check.viewOfEncoder(alone));
                check.due("all slots 7", codec.decodeFrame(time, -1, -1, -1), false);
                check.same("encoder side after a refused frame", Check.viewOfEncoder(codec),
                    Check.viewOfEncoder(alone));
            }
            check.due("frames encoded", codec.getFrameCount(0), 10);
        }
    }

    private static void ownWordsDecode() {
        for (int order = 2; order <= 6; order++) {
            for (int length = 8; length <= 32; length += 4) {
                CelpSpeechCodec codec = new CelpSpeechCodec(order, length);
                for (int frame = 1; frame <= 20; frame++) {
                    for (int n = 0; n < length; n++) {
                        codec.putSample((n * 7919 + frame * frame * 104729) % 65521 - 32760);
                    }
                    codec.encodeFrame();
                    check.due("own words", Check.decodeOwnWords(codec), true);
                    check.due("own words again", Check.decodeOwnWords(codec), true);
                    check.due("frames decoded", codec.getFrameCount(1), 2 * frame);
                }
            }
        }
    }

    private static void wordsBeforeAnyFrame() {
        for (int length = 8; length <= 32; length += 4) {
            CelpSpeechCodec codec = new CelpSpeechCodec(2, length);
            Check.putRepeated(codec, 500, length - 1);
            check.due("own words", Check.decodeOwnWords(codec), true);
            check.due("frames decoded", codec.getFrameCount(1), 1);
            check.due("c1 of words 0", codec.getReflection(1, 1), -31130);
            check.due("output of words 0", codec.getOutput(1, 0), 0);
        }
    }

    private static void sidesAgree(String name, CelpSpeechCodec codec) {
        check.due(name + ": frame counts", codec.getFrameCount(1), codec.getFrameCount(0));
        check.same(name, Check.viewOfSide(codec, 1), Check.viewOfSide(codec, 0));
    }

    private static void sidesAgreeAtFirst() {
        CelpSpeechCodec codec = new CelpSpeechCodec(3, 12);
        sidesAgree("new codec", codec);
        Check.putRepeated(codec, 4000, 11);
        codec.encodeFrame();
        codec.decodeFrame(-1, -1, -1, -1);
        sidesAgree("codec with refused calls alone", codec);
    }

    private static void sidesAgreeOverRefusedCalls() {
        for (int length = 8; length <= 28; length += 4) {
            CelpSpeechCodec codec = new CelpSpeechCodec(4, length);
            for (int frame = 0; frame < 15; frame++) {
                codec.encodeFrame();
                for (int n = 0; n < length + 3; n++) {
                    codec.putSample((n * n * 613 + frame * 4099) % 20011 - 10000);
                }
                codec.encodeFrame();
                codec.decodeFrame(-1, -1, -1, -1);
                codec.encodeFrame();
                Check.decodeOwnWords(codec);
                sidesAgree("length " + length + ", frame " + frame, codec);
                codec.putSample(5);
                codec.decodeFrame(-1, -1, -1, -1);
                sidesAgree("length " + length + ", after frame " + frame, codec);
            }
        }
    }

    private static void sidesAgreeWhenLate() {
        CelpSpeechCodec codec = new CelpSpeechCodec(5, 24);
        int[][] sent = new int[20][4];
        int received = 0;
        for (int frame = 0; frame < 20; frame++) {
            for (int n = 0; n < 24; n++) {
                codec.putSample((n * 997 + frame * frame * 31) % 9001 - 4500);
            }
            codec.encodeFrame();
            for (int i = 0; i < 4; i++) {
                sent[frame][i] = codec.getWord(i);
            }
            while (frame % 5 == 4 && received <= frame) {
                decode(codec, sent[received]);
                received++;
            }
            if (received > frame) {
                sidesAgree("after frame " + frame, codec);
            }
        }
        check.due("frames received", codec.getFrameCount(1), 20);
    }

    private static void sidesAgreeAtFullScale() {
        for (int order = 2; order <= 6; order++) {
            CelpSpeechCodec codec = new CelpSpeechCodec(order, 8);
            for (int frame = 0; frame < 60; frame++) {
                for (int n = 0; n < 8; n++) {
                    int sign = frame % 7 < 3 ? n % 2 : n / (1 + frame % 5) % 2;
                    codec.putSample(sign == 0 ? Integer.MAX_VALUE : Integer.MIN_VALUE);
                }
                codec.encodeFrame();
                Check.decodeOwnWords(codec);
                sidesAgree("order " + order + ", frame " + frame, codec);
            }
        }
    }

    // Pulses of 256, -256, 256, -256 in the last four places; 259/256 of each comes back twice.
    private static void shortestLag() {
        CelpSpeechCodec codec = decoded(2, 8, Check.words(0x8800, 0x2323, 0x9000, 0), Check.words(0x8807, 0, 0, 0));
        check.due("lag index", codec.getField(1, 0), 0);
        check.excitation("lag 4", codec, 1, -259, 259, -259, 259, -259, 259, -259, 259);
    }

    // Pulses in places 0 and 5 to 7 of a frame of 8.
    private static void lagsAroundTheFrameLength() {
        int[] pulses = Check.words(0x8800, 0x0323, 0x9000, 0);
        check.excitation("pulses", decoded(2, 8, pulses), 1, -256, 256, -256, 0, 0, 0, 0, 256);
        CelpSpeechCodec seven = decoded(2, 8, pulses, Check.words(0x881f, 0, 0, 0));
        check.excitation("lag 7", seven, 1, 0, -259, 259, -259, 0, 0, 0, 0);
        CelpSpeechCodec eight = decoded(2, 8, pulses, Check.words(0x8827, 0, 0, 0));
        check.excitation("lag 8", eight, 1, -259, 259, -259, 0, 0, 0, 0, 259);
        CelpSpeechCodec nine = decoded(2, 8, pulses, Check.words(0x882f, 0, 0, 0));
        check.excitation("lag 9", nine, 1, 259, -259, 0, 0, 0, 0, 259, 0);
    }

    // Pulses in places 0 to 3, three empty frames, then lag 35: X(32) comes back in place 3.
    private static void longestLag() {
        int[] empty = Check.words(0x8800, 0, 0, 0);
        CelpSpeechCodec codec = decoded(2, 8, Check.words(0x8800, 0, 0x9000, 0), empty, empty, empty,
            Check.words(0x88ff, 0, 0, 0));
        check.due("lag index", codec.getField(1, 0), 31);
        check.excitation("lag 35", codec, 1, 0, 259, 259, 259, 259, 0, 0, 0);
        CelpSpeechCodec wide = decoded(2, 32, Check.words(0x8800, 0xeeee, 0x9000, 0), Check.words(0x88ff, 0, 0, 0));
        check.excitation("lag 35 in a frame of 32", wide, 1, 259, 0, 0, 0, 0);
    }

    // Lag 4 in a frame with pulses of its own: the second half is that of the old history.
    private static void oldHistoryOnly() {
        CelpSpeechCodec codec = decoded(2, 8, Check.words(0x8800, 0x2323, 0x9000, 0),
            Check.words(0x8807, 0, 0x9000, 0));
        check.excitation("lag 4 beside pulses", codec, 1, -259, 259, -259, 259, -3, 515, -3, 515);
    }

    // The pulses of the frame before come back by 259/256, with 2048 more each time.
    private static void excitationTooLarge() {
        CelpSpeechCodec codec = new CelpSpeechCodec(2, 8);
        int due = 0;
        for (int frame = 0; frame < 20; frame++) {
            codec.decodeFrame(0x7727, 0, 0xf000, 0);
            due = Math.min(32767, Math.floorDiv(259 * due + 128, 256) + 2048);
            check.excitation("frame " + frame, codec, 1, 0, 0, 0, 0, due, due, due, due);
        }
        check.due("the greatest was met", due, 32767);
    }

    private static void excitationTooSmall() {
        CelpSpeechCodec codec = new CelpSpeechCodec(2, 8);
        int due = 0;
        for (int frame = 0; frame < 20; frame++) {
            codec.decodeFrame(0x7727, 0x1111, 0xf000, 0);
            due = Math.max(-32768, Math.floorDiv(259 * due + 128, 256) - 2048);
            check.excitation("frame " + frame, codec, 1, 0, 0, 0, 0, due, due, due, due);
        }
        check.due("the least was met", due, -32768);
    }

    // 259*32767/256 is 33151, above the range alone, but not with 2048 less.
    private static void onlyTheSumIsCut() {
        CelpSpeechCodec high = new CelpSpeechCodec(2, 8);
        CelpSpeechCodec low = new CelpSpeechCodec(2, 8);
        for (int frame = 0; frame < 20; frame++) {
            high.decodeFrame(0x7727, 0, 0xf000, 0);
            low.decodeFrame(0x7727, 0x1111, 0xf000, 0);
        }
        high.decodeFrame(0x7727, 0x1111, 0xf000, 0);
        low.decodeFrame(0x7727, 0, 0xf000, 0);
        check.excitation("33151 - 2048", high, 1, 0, 0, 0, 0, 31103, 31103, 31103, 31103);
        check.excitation("-33152 + 2048", low, 1, 0, 0, 0, 0, -31104, -31104, -31104, -31104);
    }

    // 37*16 = 592 and 592 + 128 = 720: 2 of 256; -592 + 128 = -464: -2 of 256, as it rounds down.
    private static void excitationRoundsDown() {
        int[] pulses = Check.words(0x8800, 0x0101, 0x1000, 0);
        CelpSpeechCodec codec = decoded(2, 8, pulses, Check.words(0x8821, 0, 0, 0));
        check.excitation("ga 1 of 16", codec, 1, 0, 0, 0, 0, -2, 2, -2, 2);
        CelpSpeechCodec half = decoded(2, 8, Check.words(0x8800, 0x0101, 0x7000, 0), Check.words(0x8821, 0, 0, 0));
        check.excitation("ga 1 of 128, 18.5", half, 1, 0, 0, 0, 0, -18, 19, -18, 19);
    }

    private static void forwardTooLarge() {
        CelpSpeechCodec codec = decoded(3, 8, Check.words(0x1f06, 0xf000, 0x3f00, 0));
        check.outputs("f too large", codec, 1, 2048, 7491, 16596, 26443, 32767, 32767, 28192, 18243);
        check.memory("f too large", codec, 1, 18243, 11773, 620);
        CelpSpeechCodec other = decoded(3, 8, Check.words(0xffb7, 0xf030, 0x1f00, 0));
        check.outputs("f too large once", other, 1, 2048, -4963, 9849, -16905, 23627, -30345, 32767, -32241);
        check.memory("f too large once", other, 1, -32241, 2138, -272);
    }

    private static void forwardTooSmall() {
        CelpSpeechCodec codec = decoded(3, 8, Check.words(0x0f08, 0x0111, 0x3f00, 0));
        check.outputs("f too small", codec, 1, -2048, -7692, -17688, -29834, -32768, -32768, -31092, -30039);
        check.memory("f too small", codec, 1, -30039, -2555, -3706);
        CelpSpeechCodec other = decoded(3, 8, Check.words(0xffdf, 0xf010, 0x3f00, 0));
        check.outputs("f too small once", other, 1, 2048, -7448, 16608, -27015, 32767, -32768, 29861, -26592);
        check.memory("f too small once", other, 1, -26592, 4598, -2713);
    }

    private static void backwardTooLarge() {
        CelpSpeechCodec codec = decoded(4, 8, Check.words(0x0000, 0xef02, 0x01f0, 0));
        check.outputs("b too large", codec, 1, 2048, -3601, 8470, -13488, 19689, -14063, 16472, -8212);
        check.memory("b too large", codec, 1, -8212, 24274, -7044, 278);
        CelpSpeechCodec other = decoded(4, 8, Check.words(0xb0f0, 0x0f30, 0x00f0, 0));
        check.outputs("b at the greatest", other, 1, 0, 2048, 5685, 12232, 16283, 21299, 19987, 20612);
        check.memory("b at the greatest", other, 1, 20612, 32354, 1793, -665);
    }

    private static void backwardTooSmall() {
        CelpSpeechCodec codec = decoded(4, 8, Check.words(0x0000, 0x9f23, 0x01f0, 0));
        check.outputs("b too small", codec, 1, 0, 0, 2048, -5649, 12068, -19906, 13856, -19605);
        check.memory("b too small", codec, 1, -19605, 32481, -1638, 3113);
        CelpSpeechCodec other = decoded(4, 8, Check.words(0x0000, 0x7f03, 0x21f0, 0));
        check.outputs("b at the least", other, 1, 2048, -3601, 6422, -9888, 13268, -17918, 15745, -17810);
        check.memory("b at the least", other, 1, -17810, 32665, -1638, 3532);
    }

    private static void lastStageKeepsNoCell() {
        for (int order = 2; order <= 6; order++) {
            CelpSpeechCodec codec = new CelpSpeechCodec(order, 32);
            for (int frame = 0; frame < 5; frame++) {
                codec.decodeFrame(0xfd3c, 0x9a57, 0x6b21, 0xf3e5);
                check.due("b[P-1] is not 0", codec.getMemory(1, order - 1) != 0, true);
                check.due("b[P]", codec.getMemory(1, order), 0);
                check.due("b[0] is the last output", codec.getMemory(1, 0), codec.getOutput(1, 31));
            }
        }
    }

    // The pulses lie in the first and in the last places of the frame.
    private static void newExcitationGoesFirst() {
        for (int length = 8; length <= 32; length += 4) {
            int last = length / 4 - 1;
            CelpSpeechCodec codec = decoded(2, length, Check.words(0x8800, 0x0010 | last << 9 | last << 1, 0x9000, 0));
            for (int j = 1; j <= 64; j++) {
                int n = length - j;
                int due = n == 0 || n == length - 3 || n == length - 1 ? 256 : n == 2 ? -256 : 0;
                check.due("X(" + j + ") at length " + length, codec.getExcitation(1, j), due);
            }
        }
    }

    // Each frame has pulses of its own amplitude; 64 is no multiple of 12, 20, 24 and 28.
    private static void oldExcitationMovesOn() {
        int[] amplitudes = {0, 16, 23, 32, 45, 64, 91, 128, 181, 256, 362, 512, 724, 1024, 1448, 2048};
        for (int length = 8; length <= 32; length += 4) {
            CelpSpeechCodec codec = new CelpSpeechCodec(2, length);
            int last = length / 4 - 1;
            for (int frame = 1; frame <= 15; frame++) {
                codec.decodeFrame(0x8800, last << 9 | last << 1, frame << 12, 0);
                for (int j = 1; j <= 64; j++) {
                    int place = length - 1 - (j - 1) % length;
                    int of = frame - (j - 1) / length;
                    boolean pulse = place == 0 || place == 2 || place == length - 3 || place == length - 1;
                    int due = pulse && of > 0 ? amplitudes[of] : 0;
                    check.due("X(" + j + ") after frame " + frame, codec.getExcitation(1, j), due);
                }
            }
        }
    }
}
