import java.util.Arrays;
import java.util.List;
import java.util.function.Consumer;
import java.util.function.Function;
import java.util.function.IntUnaryOperator;
import java.util.function.Supplier;

// Counts wrong answers of one test and shows them.
final class Check {
    private static final int SHOWN_AT_MOST = 40;
    private int wrong = 0;
    private int looked = 0;
    private int sentences = 0;

    // Runs the test of one sentence of the document. A call that throws breaks its sentence too,
    // and so does a test that looks at nothing.
    void sentence(String words, Runnable test) {
        int wrongBefore = wrong;
        int lookedBefore = looked;
        try {
            test.run();
        } catch (RuntimeException thrown) {
            due("a call threw " + thrown, true, false);
        }
        due("the test looked at an answer", looked > lookedBefore, true);
        sentences++;
        if (wrong > wrongBefore) {
            System.out.println("BROKEN: " + words);
        }
    }

    void due(String what, long got, long want) {
        looked++;
        if (got != want) {
            wrong++;
            if (wrong <= SHOWN_AT_MOST) {
                System.out.println(what + " answered " + got + ", due is " + want);
            }
        }
    }

    void due(String what, boolean got, boolean want) {
        due(what, got ? 1 : 0, want ? 1 : 0);
    }

    void same(String what, int[] got, int[] want) {
        due(what + " (first place that differs)", Arrays.mismatch(got, want), -1);
    }

    // All that shows of one encoded frame's choices: W0..W3 and k1..kP.
    void frame(String what, CelpSpeechCodec codec, int[] words, int... raw) {
        for (int i = 0; i < 4; i++) {
            due(what + ": getWord(" + i + ")", codec.getWord(i), words[i]);
        }
        due(what + ": order", codec.getOrder(), raw.length);
        for (int m = 1; m <= raw.length; m++) {
            due(what + ": getRawReflection(" + m + ")", codec.getRawReflection(m), raw[m - 1]);
        }
    }

    void outputs(String what, CelpSpeechCodec codec, int side, int... due) {
        for (int n = 0; n < due.length; n++) {
            due(what + ": getOutput(" + side + ", " + n + ")", codec.getOutput(side, n), due[n]);
        }
    }

    void memory(String what, CelpSpeechCodec codec, int side, int... due) {
        for (int m = 0; m < due.length; m++) {
            due(what + ": getMemory(" + side + ", " + m + ")", codec.getMemory(side, m), due[m]);
        }
    }

    // From X(1) on, the newest first.
    void excitation(String what, CelpSpeechCodec codec, int side, int... due) {
        for (int j = 1; j <= due.length; j++) {
            due(what + ": getExcitation(" + side + ", " + j + ")", codec.getExcitation(side, j), due[j - 1]);
        }
    }

    // Each way to look at a codec asks one kind of getter alone, so that none can hide another's change.
    private static final List<Function<CelpSpeechCodec, int[]>> LOOKS = List.of(
        codec -> new int[] {codec.getPending()},
        codec -> new int[] {codec.getOrder()},
        codec -> new int[] {codec.getFrameLength()},
        codec -> new int[] {codec.getBitCount()},
        codec -> new int[] {codec.getWord(0)},
        codec -> new int[] {codec.getWord(1)},
        codec -> new int[] {codec.getWord(2)},
        codec -> new int[] {codec.getWord(3)},
        codec -> new int[] {codec.getFrameCount(0)},
        codec -> new int[] {codec.getFrameCount(1)},
        codec -> row(6, m -> codec.getRawReflection(m + 1)),
        codec -> row(12, i -> codec.getReflection(i / 6, i % 6 + 1)),
        codec -> row(34, i -> codec.getField(i / 17, i % 17)),
        codec -> row(64, i -> codec.getOutput(i / 32, i % 32)),
        codec -> row(128, i -> codec.getExcitation(i / 64, i % 64 + 1)),
        codec -> row(12, i -> codec.getMemory(i / 6, i % 6)),
        codec -> new int[] {codec.putSample(1) ? 1 : 0, codec.encodeFrame() ? 1 : 0},
        Check::whatComesNext);

    private static int[] row(int length, IntUnaryOperator at) {
        int[] row = new int[length];
        for (int i = 0; i < length; i++) {
            row[i] = at.applyAsInt(i);
        }
        return row;
    }

    // The next frame of both sides shows what no getter does: the pending samples.
    private static int[] whatComesNext(CelpSpeechCodec codec) {
        putRepeated(codec, -900, codec.getFrameLength());
        codec.encodeFrame();
        decodeOwnWords(codec);
        return viewOfAll(codec);
    }

    // The call, made on one of two codecs alike, leaves them alike.
    void changesNothing(String what, Supplier<CelpSpeechCodec> maker, Consumer<CelpSpeechCodec> call) {
        for (int look = 0; look < LOOKS.size(); look++) {
            CelpSpeechCodec asked = maker.get();
            CelpSpeechCodec plain = maker.get();
            call.accept(asked);
            same(what + ", look " + look, LOOKS.get(look).apply(asked), LOOKS.get(look).apply(plain));
        }
    }

    void finish() {
        if (sentences > 0) {
            System.out.print(sentences + " sentences, ");
        }
        System.out.println(looked + " answers looked at, " + wrong + " wrong");
        if (wrong != 0) {
            System.exit(1);
        }
    }

    // Every answer that the getters of one side can give, arguments out of range among them.
    static int[] viewOfSide(CelpSpeechCodec codec, int side) {
        int[] view = new int[500];
        int at = 0;
        for (int i = -3; i <= 70; i++) {
            view[at++] = codec.getField(side, i);
            view[at++] = codec.getReflection(side, i);
            view[at++] = codec.getOutput(side, i);
            view[at++] = codec.getExcitation(side, i);
            view[at++] = codec.getMemory(side, i);
        }
        view[at++] = codec.getFrameCount(side);
        return Arrays.copyOf(view, at);
    }

    // The encoder's view, with what only the encoder has.
    static int[] viewOfEncoder(CelpSpeechCodec codec) {
        int[] shared = viewOfSide(codec, CelpSpeechCodec.SIDE_ENCODER);
        int[] view = Arrays.copyOf(shared, shared.length + 50);
        int at = shared.length;
        for (int i = -3; i <= 9; i++) {
            view[at++] = codec.getWord(i);
            view[at++] = codec.getRawReflection(i);
        }
        view[at++] = codec.getPending();
        return Arrays.copyOf(view, at);
    }

    static int[] viewOfAll(CelpSpeechCodec codec) {
        int[] encoder = viewOfEncoder(codec);
        int[] decoder = viewOfSide(codec, CelpSpeechCodec.SIDE_DECODER);
        int[] view = Arrays.copyOf(encoder, encoder.length + decoder.length);
        System.arraycopy(decoder, 0, view, encoder.length, decoder.length);
        return view;
    }

    // A new codec that has encoded the frames given, which fill its frame length.
    static CelpSpeechCodec encoded(int order, int[]... frames) {
        CelpSpeechCodec codec = new CelpSpeechCodec(order, frames[0].length);
        for (int[] frame : frames) {
            putAll(codec, frame);
            codec.encodeFrame();
        }
        return codec;
    }

    static int[] words(int w0, int w1, int w2, int w3) {
        return new int[] {w0, w1, w2, w3};
    }

    // Both sides hold several loud frames, and different ones; some samples are pending.
    static CelpSpeechCodec busy(int order, int length) {
        CelpSpeechCodec codec = new CelpSpeechCodec(order, length);
        for (int frame = 0; frame < 9; frame++) {
            for (int n = 0; n < codec.getFrameLength(); n++) {
                codec.putSample((n * 1237 + frame * 771) % 5003 - 2500);
            }
            codec.encodeFrame();
            if (frame != 4) {
                decodeOwnWords(codec);
            }
        }
        putRepeated(codec, 1234, 5);
        return codec;
    }

    static void putAll(CelpSpeechCodec codec, int... samples) {
        for (int sample : samples) {
            codec.putSample(sample);
        }
    }

    static void putRepeated(CelpSpeechCodec codec, int sample, int times) {
        for (int i = 0; i < times; i++) {
            codec.putSample(sample);
        }
    }

    static boolean decodeOwnWords(CelpSpeechCodec codec) {
        return codec.decodeFrame(codec.getWord(0), codec.getWord(1), codec.getWord(2), codec.getWord(3));
    }
}
