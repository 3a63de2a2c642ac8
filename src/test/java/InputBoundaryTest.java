// The boundary cases of promises 5 and 6, a test for each sentence.
public final class InputBoundaryTest {
    private static final Check check = new Check();

    public static void main(String[] args) {
        check.sentence("5: If N samples are already pending: answers false", InputBoundaryTest::fullFrameRefuses);
        check.sentence("5: N pending: changes nothing", InputBoundaryTest::refusedSampleChangesNothing);
        check.sentence("5: N pending: the sample is not kept", InputBoundaryTest::refusedSampleIsNotKept);
        check.sentence("5: Otherwise: cnt increases by 1, and the call answers true",
            InputBoundaryTest::everyPlaceTakesASample);
        check.sentence("5: the sample becomes s[cnt]", InputBoundaryTest::samplesKeepTheirPlaces);
        check.sentence("5: sample is clamped: too large", InputBoundaryTest::tooLargeBecomesTheGreatest);
        check.sentence("5: sample is clamped: too small", InputBoundaryTest::tooSmallBecomesTheLeast);
        check.sentence("5: clamped into [-32768,32767]: 32767 stays", InputBoundaryTest::theGreatestStays);
        check.sentence("5: clamped into [-32768,32767]: -32768 stays", InputBoundaryTest::theLeastStays);
        check.sentence("5: Every int value is accepted, including the most negative and most positive",
            InputBoundaryTest::everyIntIsAccepted);
        check.sentence("5: Nothing else changes", InputBoundaryTest::nothingElseChanges);
        check.sentence("6: getPending() answers cnt, 0..N", InputBoundaryTest::pendingCountsUpToTheLength);
        check.sentence("6: cnt stays over refused calls and decoding", InputBoundaryTest::pendingStaysOverOtherCalls);
        check.sentence("6: getPending() changes nothing", InputBoundaryTest::askingChangesNothing);
        check.finish();
    }

    private static void fullFrameRefuses() {
        for (int length = 8; length <= 32; length += 4) {
            CelpSpeechCodec codec = new CelpSpeechCodec(2, length);
            Check.putRepeated(codec, 50, length);
            for (int sample : new int[] {0, 1, -1, 32767, -32768, Integer.MAX_VALUE, Integer.MIN_VALUE}) {
                check.due("putSample(" + sample + ") on " + length + " samples", codec.putSample(sample), false);
            }
        }
    }

    private static void refusedSampleChangesNothing() {
        check.changesNothing("a refused sample", InputBoundaryTest::fullCodec, codec -> {
            check.due("getPending() of a full frame", codec.getPending(), 12);
            for (int more = 0; more < 40; more++) {
                codec.putSample(9999 - more);
            }
        });
    }

    private static CelpSpeechCodec fullCodec() {
        CelpSpeechCodec codec = Check.busy(4, 12);
        Check.putRepeated(codec, -55, 7);
        return codec;
    }

    // A kept sample would show in this frame, in the next one, or in the pending samples.
    private static void refusedSampleIsNotKept() {
        CelpSpeechCodec given = new CelpSpeechCodec(3, 12);
        CelpSpeechCodec due = new CelpSpeechCodec(3, 12);
        for (int n = 0; n < 12; n++) {
            given.putSample(n * n * 11 - 300);
            due.putSample(n * n * 11 - 300);
        }
        for (int more = 0; more < 13; more++) {
            given.putSample(30000);
        }
        for (int frame = 0; frame < 2; frame++) {
            check.due("encodeFrame()", given.encodeFrame(), true);
            due.encodeFrame();
            check.same("frame after refused samples", Check.viewOfAll(given), Check.viewOfAll(due));
            Check.putRepeated(given, 77, 12);
            Check.putRepeated(due, 77, 12);
        }
    }

    private static void everyPlaceTakesASample() {
        for (int length = 8; length <= 32; length += 4) {
            CelpSpeechCodec codec = new CelpSpeechCodec(2, length);
            for (int frame = 0; frame < 3; frame++) {
                for (int n = 0; n < length; n++) {
                    check.due("place " + n + " of " + length, codec.putSample(n * 31), true);
                    check.due("getPending() after place " + n, codec.getPending(), n + 1);
                }
                codec.encodeFrame();
            }
        }
    }

    private static void samplesKeepTheirPlaces() {
        CelpSpeechCodec codec = Check.encoded(2, new int[] {27, 71, -6, 7, 51, -70, 48, -77});
        check.frame("samples in order", codec, Check.words(0xa600, 0x2323, 0x4000, 0), 13386, -6875);
        check.outputs("samples in order", codec, 0, 0, 0, 0, 0, 45, -60, 77, -87);
        CelpSpeechCodec last = Check.encoded(2, new int[] {0, 0, 0, 0, 0, 0, 0, 2000});
        check.due("a sample in the last place: slot of track 3", last.getField(0, 6), 1);
        CelpSpeechCodec first = Check.encoded(2, new int[] {2000, 0, 0, 0, 0, 0, 0, 0});
        check.due("a sample in the first place: slot of track 0", first.getField(0, 3), 0);
        check.due("a sample in the first place: first output is not 0", first.getOutput(0, 0) > 0, true);
    }

    // The reflections of these frames tell 32767 and -32768 from both their neighbours.
    private static CelpSpeechCodec loudest(int sample) {
        return Check.encoded(2, new int[] {-14229, 1315, sample, 17753, -28045, 18247, -13662, 16501});
    }

    private static CelpSpeechCodec lowest(int sample) {
        return Check.encoded(2, new int[] {3821, 21136, 13925, 30432, sample, -31398, 138, -7309});
    }

    private static void reflections(String what, CelpSpeechCodec codec, int k1, int k2) {
        check.due("k1 of " + what, codec.getRawReflection(1), k1);
        check.due("k2 of " + what, codec.getRawReflection(2), k2);
    }

    private static void theGreatestStays() {
        reflections("32766", loudest(32766), 9074, 6678);
        reflections("32767", loudest(32767), 9073, 6678);
    }

    private static void theLeastStays() {
        reflections("-32767", lowest(-32767), -7319, 6297);
        reflections("-32768", lowest(-32768), -7318, 6297);
    }

    private static void tooLargeBecomesTheGreatest() {
        int[] due = Check.viewOfAll(loudest(32767));
        for (int sample : new int[] {32768, 32769, 65535, 65536, 98303, 1 << 20, Integer.MAX_VALUE}) {
            check.same("a sample of " + sample, Check.viewOfAll(loudest(sample)), due);
        }
    }

    private static void tooSmallBecomesTheLeast() {
        int[] due = Check.viewOfAll(lowest(-32768));
        for (int sample : new int[] {-32769, -32770, -65535, -65536, -98304, -(1 << 20), Integer.MIN_VALUE}) {
            check.same("a sample of " + sample, Check.viewOfAll(lowest(sample)), due);
        }
    }

    private static void everyIntIsAccepted() {
        CelpSpeechCodec codec = new CelpSpeechCodec(6, 32);
        for (int bit = 0; bit < 16; bit++) {
            check.due("putSample", codec.putSample(Integer.MIN_VALUE >> 2 * bit), true);
            check.due("putSample", codec.putSample(Integer.MAX_VALUE >> 2 * bit), true);
        }
        check.due("getPending()", codec.getPending(), 32);
        check.due("encodeFrame()", codec.encodeFrame(), true);
    }

    private static void nothingElseChanges() {
        CelpSpeechCodec codec = new CelpSpeechCodec(6, 16);
        Check.putAll(codec, 900, -1500, 300, 0, 900, -1500, 300, 0, 800, -1500, 300, 0, 900, -1500, 200, 0);
        codec.encodeFrame();
        Check.decodeOwnWords(codec);
        codec.decodeFrame(0x1234, 0x1010, 0x2345, 0x6000);
        int[] before = Check.viewOfAll(codec);
        int pendingAt = Check.viewOfEncoder(codec).length - 1;
        for (int n = 1; n <= 16; n++) {
            codec.putSample(-20000 + 2777 * n);
            before[pendingAt] = n;
            check.same("view after sample " + n, Check.viewOfAll(codec), before);
        }
    }

    private static void pendingCountsUpToTheLength() {
        for (int length = 8; length <= 32; length += 4) {
            CelpSpeechCodec codec = new CelpSpeechCodec(3, length);
            check.due("empty", codec.getPending(), 0);
            for (int n = 1; n <= length + 3; n++) {
                codec.putSample(n);
                check.due("after " + n + " samples at " + length, codec.getPending(), Math.min(n, length));
            }
            codec.encodeFrame();
            check.due("after the frame", codec.getPending(), 0);
        }
    }

    private static void pendingStaysOverOtherCalls() {
        CelpSpeechCodec codec = new CelpSpeechCodec(2, 8);
        for (int n = 0; n < 8; n++) {
            check.due("a frame short of samples", codec.encodeFrame(), false);
            check.due("after a refused encodeFrame()", codec.getPending(), n);
            check.due("words 0", codec.decodeFrame(0, 0, 0, 0), true);
            check.due("after decodeFrame", codec.getPending(), n);
            check.due("slots too great", codec.decodeFrame(0, 0xffff, 0, 0), false);
            check.due("after a refused decodeFrame", codec.getPending(), n);
            codec.putSample(40);
        }
    }

    private static void askingChangesNothing() {
        check.changesNothing("getPending()", () -> Check.busy(5, 20), codec -> {
            check.due("getPending()", codec.getPending(), 5);
            check.due("getPending() again", codec.getPending(), 5);
        });
    }
}
