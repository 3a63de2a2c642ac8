import java.util.Random;

// Long runs of mixed calls, each answer compared with the document's steps done plainly.
public final class ReferenceTest {
    private static final int STYLES = 9;
    private static final Check check = new Check();

    public static void main(String[] args) {
        for (int order = 2; order <= 6; order++) {
            for (int length = 8; length <= 32; length += 4) {
                for (int style = 0; style < STYLES; style++) {
                    encodeStyle(order, length, style);
                }
                mixedRun(order, length);
                loudDecoding(order, length);
            }
            longQuietRun(order);
        }
        check.finish();
    }

    private static void encodeStyle(int order, int length, int style) {
        CelpSpeechCodec codec = new CelpSpeechCodec(order, length);
        ReferenceCodec reference = new ReferenceCodec(order, length);
        Random random = new Random(order * 1000 + length * 10 + style);
        String name = order + ", " + length + ", style " + style;
        for (int frame = 0; frame < 5; frame++) {
            for (int n = 0; n < length; n++) {
                int sample = sampleOf(style, frame * length + n, random);
                check.due(name + " putSample", codec.putSample(sample), reference.put(sample));
            }
            check.due(name + " encodeFrame", codec.encodeFrame(), reference.encode());
            compare(name + ", frame " + frame, codec, reference);
        }
    }

    private static int sampleOf(int style, int time, Random random) {
        switch (style) {
            case 0: return random.nextInt(65536) - 32768;
            case 1: return random.nextInt(41) - 20;
            case 2: return (int) (9000 * Math.sin(time * 0.31) + 2500 * Math.sin(time * 0.97));
            case 3: return time % 19 == 0 ? 12000 : random.nextInt(200) - 100;
            case 4: return time % 2 == 0 ? 32767 : -32768;
            case 5: return (time / 7) % 2 == 0 ? Integer.MAX_VALUE : Integer.MIN_VALUE;
            case 6: return time % 11 * 300 - 1500;
            case 7: return random.nextInt(16) == 0 ? random.nextInt(3) - 1 : 0;
            default: return 32767;
        }
    }

    private static void mixedRun(int order, int length) {
        CelpSpeechCodec codec = new CelpSpeechCodec(order, length);
        ReferenceCodec reference = new ReferenceCodec(order, length);
        Random random = new Random(order * 77 + length);
        String name = order + ", " + length + ", mixed";
        for (int call = 0; call < 12 * length; call++) {
            int choice = random.nextInt(16);
            if (choice < 12) {
                int sample = random.nextInt() >> (4 + random.nextInt(28));
                check.due(name + " putSample", codec.putSample(sample), reference.put(sample));
            } else if (choice == 12) {
                check.due(name + " encodeFrame", codec.encodeFrame(), reference.encode());
            } else if (choice == 13) {
                int[] w = new int[4];
                for (int i = 0; i < 4; i++) {
                    w[i] = reference.word(i);
                }
                decodeBoth(name, codec, reference, w);
            } else if (choice == 14) {
                int[] w = {random.nextInt(), random.nextInt(), random.nextInt(), random.nextInt()};
                decodeBoth(name, codec, reference, w);
            } else {
                compare(name + ", call " + call, codec, reference);
            }
            check.due(name + " getPending", codec.getPending(), reference.pending.size());
        }
        compare(name + ", end", codec, reference);
    }

    // Many frames near the smallest pulse amplitudes, where a rounding of one step turns a choice.
    private static void longQuietRun(int order) {
        CelpSpeechCodec codec = new CelpSpeechCodec(order, 8);
        ReferenceCodec reference = new ReferenceCodec(order, 8);
        Random random = new Random(order);
        for (int frame = 0; frame < 3000; frame++) {
            int loudness = 2 + random.nextInt(120);
            for (int n = 0; n < 8; n++) {
                int sample = random.nextInt(2 * loudness) - loudness;
                codec.putSample(sample);
                reference.put(sample);
            }
            codec.encodeFrame();
            reference.encode();
            for (int i = 0; i < 4; i++) {
                check.due("quiet frame " + frame + " getWord " + i, codec.getWord(i), reference.word(i));
            }
            for (int m = 1; m <= order; m++) {
                check.due("quiet frame " + frame + " k" + m, codec.getRawReflection(m), reference.rawReflection(m));
            }
        }
        compare("quiet run's end", codec, reference);
    }

    // The same strong pulses again and again at the greatest gain, until every saturation is met.
    private static void loudDecoding(int order, int length) {
        for (int q = 0; q < 16; q++) {
            CelpSpeechCodec codec = new CelpSpeechCodec(order, length);
            ReferenceCodec reference = new ReferenceCodec(order, length);
            int signs = q % 2 == 0 ? 0x0000 : 0x1111;
            long bits = 0;
            for (int m = 1; m <= order; m++) {
                bits = bits << 4 | (m % 2 == 0 ? 15 - q : q);
            }
            bits = ((bits << 5 | length - 4) << 3 | 7) << 16 | signs;
            bits = (bits << 4 | 15) << (36 - 4 * order);
            int[] w = {(int) (bits >> 48), (int) (bits >> 32), (int) (bits >> 16), (int) bits};
            for (int frame = 0; frame < 24; frame++) {
                decodeBoth("loud " + q, codec, reference, w);
            }
            compare("loud " + q, codec, reference);
        }
    }

    private static void decodeBoth(String name, CelpSpeechCodec codec, ReferenceCodec reference, int[] w) {
        check.due(name + " decodeFrame", codec.decodeFrame(w[0], w[1], w[2], w[3]),
            reference.decode(w[0], w[1], w[2], w[3]));
    }

    private static void compare(String name, CelpSpeechCodec codec, ReferenceCodec reference) {
        check.due(name + " getPending", codec.getPending(), reference.pending.size());
        for (int i = -2; i <= 66; i++) {
            check.due(name + " getWord " + i, codec.getWord(i), reference.word(i));
            check.due(name + " getRawReflection " + i, codec.getRawReflection(i), reference.rawReflection(i));
            for (int side = -1; side <= 2; side++) {
                String at = " " + side + ", " + i;
                check.due(name + " getField" + at, codec.getField(side, i), reference.field(side, i));
                check.due(name + " getReflection" + at, codec.getReflection(side, i), reference.reflection(side, i));
                check.due(name + " getOutput" + at, codec.getOutput(side, i), reference.output(side, i));
                check.due(name + " getExcitation" + at, codec.getExcitation(side, i), reference.excitation(side, i));
                check.due(name + " getMemory" + at, codec.getMemory(side, i), reference.memory(side, i));
            }
        }
        for (int side = -1; side <= 2; side++) {
            check.due(name + " getFrameCount", codec.getFrameCount(side), reference.frameCount(side));
        }
    }
}
