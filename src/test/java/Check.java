import java.util.Arrays;

// Counts wrong answers of one test and shows them.
final class Check {
    private static final int SHOWN_AT_MOST = 40;
    private int wrong = 0;
    private int looked = 0;

    void due(String what, long got, long want) {
        looked++;
        if (got != want) {
            wrong++;
            if (wrong <= SHOWN_AT_MOST) {
                System.out.println(what + " answered " + got + ", due is " + want);
            }
        }
    }

    void due(String what, boolean got, boolean want) {
        due(what, got ? 1 : 0, want ? 1 : 0);
    }

    void same(String what, int[] got, int[] want) {
        due(what + " (first place that differs)", Arrays.mismatch(got, want), -1);
    }

    void finish() {
        System.out.println(looked + " answers looked at, " + wrong + " wrong");
        if (wrong != 0) {
            System.exit(1);
        }
    }

    // Every answer that the getters of one side can give, arguments out of range among them.
    static int[] viewOfSide(CelpSpeechCodec codec, int side) {
        int[] view = new int[500];
        int at = 0;
        for (int i = -3; i <= 70; i++) {
            view[at++] = codec.getField(side, i);
            view[at++] = codec.getReflection(side, i);
            view[at++] = codec.getOutput(side, i);
            view[at++] = codec.getExcitation(side, i);
            view[at++] = codec.getMemory(side, i);
        }
        view[at++] = codec.getFrameCount(side);
        return Arrays.copyOf(view, at);
    }

    // The encoder's view, with what only the encoder has.
    static int[] viewOfEncoder(CelpSpeechCodec codec) {
        int[] shared = viewOfSide(codec, CelpSpeechCodec.SIDE_ENCODER);
        int[] view = Arrays.copyOf(shared, shared.length + 50);
        int at = shared.length;
        for (int i = -3; i <= 9; i++) {
            view[at++] = codec.getWord(i);
            view[at++] = codec.getRawReflection(i);
        }
        view[at++] = codec.getPending();
        return Arrays.copyOf(view, at);
    }

    static int[] viewOfAll(CelpSpeechCodec codec) {
        int[] encoder = viewOfEncoder(codec);
        int[] decoder = viewOfSide(codec, CelpSpeechCodec.SIDE_DECODER);
        int[] view = Arrays.copyOf(encoder, encoder.length + decoder.length);
        System.arraycopy(decoder, 0, view, encoder.length, decoder.length);
        return view;
    }

    static void putAll(CelpSpeechCodec codec, int... samples) {
        for (int sample : samples) {
            codec.putSample(sample);
        }
    }

    static void putRepeated(CelpSpeechCodec codec, int sample, int times) {
        for (int i = 0; i < times; i++) {
            codec.putSample(sample);
        }
    }

    static boolean decodeOwnWords(CelpSpeechCodec codec) {
        return codec.decodeFrame(codec.getWord(0), codec.getWord(1), codec.getWord(2), codec.getWord(3));
    }
}
