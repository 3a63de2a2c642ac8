// Promises 5 and 6: putSample and getPending.
public final class InputTest {
    private static final Check check = new Check();

    public static void main(String[] args) {
        samplesFillOneFrame();
        samplesAreClamped();
        refusedSampleIsNotKept();
        nothingElseChanges();
        check.finish();
    }

    private static void samplesFillOneFrame() {
        for (int length = 8; length <= 32; length += 4) {
            CelpSpeechCodec codec = new CelpSpeechCodec(2, length);
            for (int n = 0; n < length; n++) {
                check.due("getPending() before sample " + n, codec.getPending(), n);
                check.due("putSample of place " + n, codec.putSample(n * 31), true);
            }
            for (int more = 0; more < 3; more++) {
                check.due("getPending() of a full frame", codec.getPending(), length);
                check.due("putSample on a full frame", codec.putSample(5), false);
            }
            codec.encodeFrame();
            check.due("getPending() after the frame", codec.getPending(), 0);
            check.due("putSample after the frame", codec.putSample(5), true);
            check.due("getPending() after one sample more", codec.getPending(), 1);
        }
    }

    private static void samplesAreClamped() {
        int[] wide = {Integer.MAX_VALUE, 32768, Integer.MIN_VALUE, -32769, 65536, -65536, 32767, -32768};
        int[] cut = {32767, 32767, -32768, -32768, 32767, -32768, 32767, -32768};
        CelpSpeechCodec given = new CelpSpeechCodec(4, 8);
        CelpSpeechCodec due = new CelpSpeechCodec(4, 8);
        for (int frame = 0; frame < 3; frame++) {
            for (int n = 0; n < 8; n++) {
                check.due("putSample(" + wide[n] + ")", given.putSample(wide[n]), true);
                due.putSample(cut[n]);
            }
            given.encodeFrame();
            due.encodeFrame();
            check.same("frame of clamped samples", Check.viewOfAll(given), Check.viewOfAll(due));
        }
        onlyTheRangeIsCut();
    }

    private static void onlyTheRangeIsCut() {
        CelpSpeechCodec given = new CelpSpeechCodec(2, 8);
        ReferenceCodec due = new ReferenceCodec(2, 8);
        int[] samples = {-32768, 32767, -32767, 32766, 1, -1, 0, 32767};
        for (int sample : samples) {
            given.putSample(sample);
            due.put(sample);
        }
        given.encodeFrame();
        due.encode();
        check.due("k1 at the edges of the range", given.getRawReflection(1), due.rawReflection(1));
        check.due("k2 at the edges of the range", given.getRawReflection(2), due.rawReflection(2));
    }

    private static void refusedSampleIsNotKept() {
        CelpSpeechCodec given = new CelpSpeechCodec(3, 12);
        CelpSpeechCodec due = new CelpSpeechCodec(3, 12);
        for (int n = 0; n < 12; n++) {
            given.putSample(n * n * 11 - 300);
            due.putSample(n * n * 11 - 300);
        }
        check.due("putSample on a full frame", given.putSample(30000), false);
        check.due("putSample on a full frame", given.putSample(Integer.MIN_VALUE), false);
        for (int frame = 0; frame < 2; frame++) {
            given.encodeFrame();
            due.encodeFrame();
            check.same("frame after refused samples", Check.viewOfAll(given), Check.viewOfAll(due));
            Check.putRepeated(given, 77, 12);
            Check.putRepeated(due, 77, 12);
        }
    }

    private static void nothingElseChanges() {
        CelpSpeechCodec codec = new CelpSpeechCodec(6, 16);
        for (int n = 0; n < 16; n++) {
            codec.putSample((n % 5) * 900 - 1500);
        }
        codec.encodeFrame();
        Check.decodeOwnWords(codec);
        int[] before = Check.viewOfAll(codec);
        int pendingAt = Check.viewOfEncoder(codec).length - 1;
        for (int n = 1; n <= 18; n++) {
            codec.putSample(-20000 + 777 * n);
            before[pendingAt] = Math.min(n, 16);
            check.same("view after putSample " + n, Check.viewOfAll(codec), before);
            check.due("getPending() asked twice", codec.getPending(), Math.min(n, 16));
        }
    }
}
