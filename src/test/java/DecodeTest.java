import java.util.Arrays;

// Promise 12: decodeFrame, with rule D and the agreement of the two sides.
public final class DecodeTest {
    private static final Check check = new Check();

    public static void main(String[] args) {
        frameWorkedByHand();
        historyIsUsedAgain();
        slotsBeyondTheFrameAreRefused();
        onlyTheLowSixteenBitsCount();
        bitsPastTheFrameAreIgnored();
        encoderSideStays();
        wordsOfAFreshObjectDecode();
        sidesAgree();
        sidesAgreeWithDelay();
        check.finish();
    }

    // q1 = q2 = 8 (3277), lag index 0, ga 0, slots 0, signs + - + +, gf 9 (256).
    private static void frameWorkedByHand() {
        CelpSpeechCodec codec = new CelpSpeechCodec(2, 8);
        check.due("decodeFrame", codec.decodeFrame(0x8800, 0x0100, 0x9000, 0), true);
        int[] excitation = {256, -256, 256, 256, 0, 0, 0, 0};
        for (int j = 1; j <= 8; j++) {
            check.due("X(" + j + ")", codec.getExcitation(1, j), excitation[8 - j]);
        }
        for (int j = 9; j <= 64; j++) {
            check.due("X(" + j + ")", codec.getExcitation(1, j), 0);
        }
        int[] output = {256, -285, 262, 256, -55};
        for (int n = 0; n < output.length; n++) {
            check.due("o[" + n + "]", codec.getOutput(1, n), output[n]);
        }
        check.due("b[0] is the last output", codec.getMemory(1, 0), codec.getOutput(1, 7));
        check.due("frame count", codec.getFrameCount(1), 1);
    }

    // Lag 8 then lag 5, which is shorter than the frame, both with ga 7 (259/256) and no pulses.
    private static void historyIsUsedAgain() {
        CelpSpeechCodec codec = new CelpSpeechCodec(2, 8);
        codec.decodeFrame(0x8800, 0x0100, 0x9000, 0);
        check.due("decodeFrame with lag 8", codec.decodeFrame(0x8827, 0, 0, 0), true);
        int[] second = {259, -259, 259, 259, 0, 0, 0, 0};
        int[] first = {256, -256, 256, 256, 0, 0, 0, 0};
        for (int j = 1; j <= 8; j++) {
            check.due("X(" + j + ") after lag 8", codec.getExcitation(1, j), second[8 - j]);
            check.due("X(" + (j + 8) + ") after lag 8", codec.getExcitation(1, j + 8), first[8 - j]);
        }
        check.due("decodeFrame with lag 5", codec.decodeFrame(0x880f, 0, 0, 0), true);
        int[] third = {262, 0, 0, 0, 0, 262, 0, 0};
        for (int j = 1; j <= 8; j++) {
            check.due("X(" + j + ") after lag 5", codec.getExcitation(1, j), third[8 - j]);
        }
        for (int frame = 0; frame < 6; frame++) {
            codec.decodeFrame(0x8800, 0, 0, 0);
        }
        check.due("X(64) is of the second frame", codec.getExcitation(1, 64), 259);
        check.due("X(56) is of the third frame", codec.getExcitation(1, 56), 262);
        check.due("X(51) is of the third frame", codec.getExcitation(1, 51), 262);
        codec.decodeFrame(0x8800, 0, 0, 0);
        check.due("the second frame is gone", codec.getExcitation(1, 64), 262);
    }

    private static void slotsBeyondTheFrameAreRefused() {
        for (int length = 8; length <= 32; length += 4) {
            for (int track = 0; track < 4; track++) {
                for (int slot = 0; slot < 8; slot++) {
                    trySlot(length, track, slot);
                }
            }
        }
    }

    private static void trySlot(int length, int track, int slot) {
        CelpSpeechCodec codec = new CelpSpeechCodec(2, length);
        codec.decodeFrame(0x93ad, 0x0121, 0x7000, 0);
        int[] before = Check.viewOfAll(codec);
        int slots = slot << (13 - 4 * track);
        boolean fits = slot < length / 4;
        String name = "slot " + slot + " of track " + track + " at length " + length;
        check.due(name, codec.decodeFrame(0x5a5b, slots, 0xf000, 0), fits);
        if (fits) {
            check.due(name + " is kept", codec.getField(1, 3 + track), slot);
            check.due(name + " counts", codec.getFrameCount(1), 2);
        } else {
            check.same(name + " changes nothing", Check.viewOfAll(codec), before);
            CelpSpeechCodec other = new CelpSpeechCodec(2, length);
            other.decodeFrame(0x93ad, 0x0121, 0x7000, 0);
            other.decodeFrame(0x12ef, 0x1010, 0x3000, 0);
            codec.decodeFrame(0x12ef, 0x1010, 0x3000, 0);
            check.same(name + " leaves no trace", Check.viewOfAll(codec), Check.viewOfAll(other));
        }
    }

    private static void onlyTheLowSixteenBitsCount() {
        for (int order = 2; order <= 6; order++) {
            CelpSpeechCodec plain = new CelpSpeechCodec(order, 32);
            CelpSpeechCodec wide = new CelpSpeechCodec(order, 32);
            int[] tops = {0xffff0000, 0x80000000, 0x7fff0000, 0x00010000};
            for (int frame = 0; frame < 4; frame++) {
                int top = tops[frame];
                check.due("plain words", plain.decodeFrame(0x6e59, 0x9c37, 0xb4f1, 0xd2a8), true);
                check.due("words with high bits",
                    wide.decodeFrame(0x6e59 | top, 0x9c37 | top, 0xb4f1 | top, 0xd2a8 | top), true);
                check.same("words with high bits", Check.viewOfAll(wide), Check.viewOfAll(plain));
            }
            plain.decodeFrame(65535, 65535, 65535, 65535);
            wide.decodeFrame(-1, -1, -1, -1);
            check.same("words of -1", Check.viewOfAll(wide), Check.viewOfAll(plain));
        }
    }

    private static void bitsPastTheFrameAreIgnored() {
        for (int order = 2; order <= 6; order++) {
            int bits = 4 * order + 28;
            for (int bit = 32; bit < 64; bit++) {
                CelpSpeechCodec plain = new CelpSpeechCodec(order, 32);
                CelpSpeechCodec flipped = new CelpSpeechCodec(order, 32);
                plain.decodeFrame(0x6e59, 0x9c37, 0xb4f1, 0xd2a8);
                int mask = 1 << (15 - bit % 16);
                flipped.decodeFrame(0x6e59, 0x9c37, bit < 48 ? 0xb4f1 ^ mask : 0xb4f1,
                    bit < 48 ? 0xd2a8 : 0xd2a8 ^ mask);
                boolean same = Arrays.equals(Check.viewOfAll(plain), Check.viewOfAll(flipped));
                check.due("bit " + bit + " of " + bits + " ignored", same, bit >= bits);
            }
        }
    }

    private static void encoderSideStays() {
        CelpSpeechCodec codec = new CelpSpeechCodec(4, 16);
        CelpSpeechCodec alone = new CelpSpeechCodec(4, 16);
        for (int frame = 0; frame < 4; frame++) {
            for (int n = 0; n < 16; n++) {
                int sample = (n * n * 97 + frame * 501) % 4000 - 2000;
                codec.putSample(sample);
                alone.putSample(sample);
                int[] before = Check.viewOfEncoder(codec);
                codec.decodeFrame(0x1357 * (n + 1), 0x2222 + 2 * n, 0x0f00 * frame, 0xffff);
                check.same("encoder side after decodeFrame", Check.viewOfEncoder(codec), before);
            }
            codec.encodeFrame();
            alone.encodeFrame();
            check.same("encoding goes on as alone", Check.viewOfEncoder(codec), Check.viewOfEncoder(alone));
        }
    }

    // All words are 0: every slot is 0, so the frame decodes.
    private static void wordsOfAFreshObjectDecode() {
        CelpSpeechCodec codec = new CelpSpeechCodec(2, 8);
        check.due("own words of a new codec", Check.decodeOwnWords(codec), true);
        check.due("frame count", codec.getFrameCount(1), 1);
        check.due("c1 of words 0", codec.getReflection(1, 1), -31130);
        check.due("output of words 0", codec.getOutput(1, 0), 0);
    }

    private static void sidesAgree() {
        for (int order = 2; order <= 6; order++) {
            for (int length = 8; length <= 32; length += 4) {
                CelpSpeechCodec codec = new CelpSpeechCodec(order, length);
                for (int frame = 0; frame < 12; frame++) {
                    putFrame(codec, frame);
                    codec.encodeFrame();
                    check.due("own words", Check.decodeOwnWords(codec), true);
                    check.same("sides agree", Check.viewOfSide(codec, 1), Check.viewOfSide(codec, 0));
                }
            }
        }
    }

    private static void sidesAgreeWithDelay() {
        CelpSpeechCodec codec = new CelpSpeechCodec(5, 24);
        int[][] kept = new int[10][4];
        for (int frame = 0; frame < 10; frame++) {
            putFrame(codec, frame);
            codec.encodeFrame();
            for (int i = 0; i < 4; i++) {
                kept[frame][i] = codec.getWord(i);
            }
        }
        for (int[] words : kept) {
            check.due("kept words", codec.decodeFrame(words[0], words[1], words[2], words[3]), true);
        }
        check.same("sides agree at last", Check.viewOfSide(codec, 1), Check.viewOfSide(codec, 0));
    }

    private static void putFrame(CelpSpeechCodec codec, int frame) {
        int length = codec.getFrameLength();
        for (int n = 0; n < length; n++) {
            int time = frame * length + n;
            codec.putSample((time % 23) * (frame + 1) * 200 - (time * time % 1009) * (12 - frame));
        }
    }
}
