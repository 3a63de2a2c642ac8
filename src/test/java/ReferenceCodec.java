import java.util.ArrayList;
import java.util.List;
import java.util.Set;
import java.util.TreeSet;

// The document's steps word by word, with no care for speed, to compare the class with.
// Sums are made with Math.addExact and its like, so a sum that leaves 64 bits is a loud error.
final class ReferenceCodec {
    static final int[] KQ = {-31130, -29491, -27034, -23757, -19661, -14746, -9011, -3277,
        3277, 9011, 14746, 19661, 23757, 27034, 29491, 31130};
    static final int[] AG = {0, 37, 74, 111, 148, 185, 222, 259};
    static final int[] FG = {0, 16, 23, 32, 45, 64, 91, 128, 181, 256, 362, 512, 724, 1024, 1448, 2048};

    // The boundary cases that any codec of this class has met, for a test to see that its runs reach them.
    static final Set<String> MET = new TreeSet<>();

    static final class Side {
        int[] memory;
        List<Integer> pastExcitation = new ArrayList<>();
        int[] output;
        int[] kinds = new int[17];
        int frames = 0;

        int past(int j) {
            int at = pastExcitation.size() - j;
            return at < 0 ? 0 : pastExcitation.get(at);
        }
    }

    final int order;
    final int length;
    final Side[] sides = {new Side(), new Side()};
    List<Integer> pending = new ArrayList<>();
    int[] raw;
    int[] words = new int[4];

    ReferenceCodec(int order, int frameLength) {
        this.order = Math.max(2, Math.min(6, order));
        this.length = Math.max(8, Math.min(32, frameLength)) / 4 * 4;
        this.raw = new int[this.order + 1];
        for (Side side : sides) {
            side.memory = new int[this.order];
            side.output = new int[this.length];
        }
    }

    boolean put(int sample) {
        if (pending.size() == length) {
            return false;
        }
        pending.add(sat16(sample));
        return true;
    }

    boolean encode() {
        if (pending.size() < length) {
            return false;
        }
        Side side = sides[0];
        raw = reflections();
        int[] kinds = new int[17];
        int[] c = new int[order + 1];
        for (int m = 1; m <= order; m++) {
            kinds[10 + m] = quantise(raw[m]);
            c[m] = KQ[kinds[10 + m]];
        }
        int[] copy = side.memory.clone();
        int[] x = new int[length];
        for (int n = 0; n < length; n++) {
            x[n] = cut("E4", "x", pending.get(n) - lattice("E4", c, copy, 0));
        }
        int[] zero = new int[order];
        int[] h = new int[length];
        for (int n = 0; n < length; n++) {
            h[n] = lattice("E5", c, zero, n == 0 ? 4096 : 0);
        }
        int[] x2 = adaptive(side, x, h, kinds);
        fixed(x2, h, kinds);
        side.kinds = kinds;
        pack(kinds);
        decode(side);
        pending = new ArrayList<>();
        return true;
    }

    boolean decode(int w0, int w1, int w2, int w3) {
        StringBuilder bits = new StringBuilder();
        for (int w : new int[] {w0, w1, w2, w3}) {
            for (int bit = 15; bit >= 0; bit--) {
                bits.append((w >> bit) & 1);
            }
        }
        int[] kinds = new int[17];
        int[] at = {0};
        for (int m = 1; m <= order; m++) {
            kinds[10 + m] = take(bits, at, 4);
        }
        kinds[0] = take(bits, at, 5);
        kinds[1] = take(bits, at, 3);
        for (int t = 0; t < 4; t++) {
            kinds[3 + t] = take(bits, at, 3);
            kinds[7 + t] = take(bits, at, 1);
        }
        kinds[2] = take(bits, at, 4);
        for (int t = 0; t < 4; t++) {
            if (kinds[3 + t] >= length / 4) {
                return false;
            }
        }
        sides[1].kinds = kinds;
        decode(sides[1]);
        return true;
    }

    int reflection(int side, int m) {
        boolean known = side >= 0 && side <= 1 && m >= 1 && m <= order && sides[side].frames > 0;
        return known ? KQ[sides[side].kinds[10 + m]] : 0;
    }

    int field(int side, int kind) {
        boolean known = side >= 0 && side <= 1 && kind >= 0 && kind <= 16 && kind < 11 + order;
        return known ? sides[side].kinds[kind] : -1;
    }

    int output(int side, int n) {
        return side >= 0 && side <= 1 && n >= 0 && n < length ? sides[side].output[n] : 0;
    }

    int excitation(int side, int j) {
        return side >= 0 && side <= 1 && j >= 1 && j <= 64 ? sides[side].past(j) : 0;
    }

    int memory(int side, int m) {
        return side >= 0 && side <= 1 && m >= 0 && m < order ? sides[side].memory[m] : 0;
    }

    int frameCount(int side) {
        return side >= 0 && side <= 1 ? sides[side].frames : 0;
    }

    int rawReflection(int m) {
        return m >= 1 && m <= order ? raw[m] : 0;
    }

    int word(int i) {
        return i >= 0 && i <= 3 ? words[i] : 0;
    }

    private int[] reflections() {
        long[] big = new long[order + 1];
        for (int i = 0; i <= order; i++) {
            for (int n = i; n < length; n++) {
                big[i] = Math.addExact(big[i], (long) pending.get(n) * pending.get(n - i));
            }
        }
        int[] k = new int[order + 1];
        if (big[0] == 0) {
            MET.add("E2 R[0] == 0");
            return k;
        }
        long den = big[0] + Math.floorDiv(big[0], 128L) + 1;
        long[] r = new long[order + 1];
        for (int i = 0; i <= order; i++) {
            r[i] = Math.multiplyExact(big[i], 32767L) / den;
        }
        long[] a = new long[order + 1];
        long energy = r[0];
        for (int m = 1; m <= order; m++) {
            if (energy <= 0) {
                MET.add("E2 E <= 0");
                continue;
            }
            long acc = Math.multiplyExact(r[m], 32768L);
            for (int j = 1; j <= m - 1; j++) {
                acc = Math.addExact(acc, Math.multiplyExact(a[j], r[m - j]));
            }
            long km = Math.max(-32767L, Math.min(32767L, -(acc / energy)));
            if (km != -(acc / energy)) {
                MET.add("E2 km too " + (km > 0 ? "large" : "small"));
            }
            long[] next = a.clone();
            for (int j = 1; j <= m - 1; j++) {
                next[j] = a[j] + Math.floorDiv(Math.multiplyExact(km, a[m - j]) + 16384L, 32768L);
            }
            next[m] = km;
            a = next;
            energy = Math.floorDiv(Math.multiplyExact(energy, 1073741824L - km * km), 1073741824L);
            k[m] = (int) km;
        }
        return k;
    }

    private static int quantise(int k) {
        int best = 15;
        for (int i = 15; i >= 0; i--) {
            if (i < 15 && Math.abs(k - KQ[i]) == Math.abs(k - KQ[best])) {
                MET.add("E3 tie at " + k);
            }
            if (Math.abs(k - KQ[i]) <= Math.abs(k - KQ[best])) {
                best = i;
            }
        }
        return best;
    }

    private int[] adaptive(Side side, int[] x, int[] h, int[] kinds) {
        long least = -1;
        int[] chosen = new int[length];
        for (int candidate = 0; candidate < 256; candidate++) {
            int li = candidate / 8;
            int ga = candidate % 8;
            int[] v = past(side, li);
            int[] y = new int[length];
            long error = 0;
            for (int n = 0; n < length; n++) {
                long sum = 0;
                for (int j = 0; j <= n; j++) {
                    sum = Math.addExact(sum, (long) v[j] * h[n - j]);
                }
                if (sum != (int) sum) {
                    MET.add("E6 sum past 32 bits");
                }
                y[n] = cut("E6", "y", Math.floorDiv(sum + 2048L, 4096L));
                long d = 256L * x[n] - (long) AG[ga] * y[n];
                error = Math.addExact(error, Math.multiplyExact(d, d));
            }
            if (error == least && ga > 0 && kinds[1] > 0) {
                MET.add("E6 tie of lags");
            }
            if (least < 0 || error < least) {
                least = error;
                chosen = y;
                kinds[0] = li;
                kinds[1] = ga;
            }
        }
        int[] x2 = new int[length];
        for (int n = 0; n < length; n++) {
            x2[n] = cut("E7", "x2", x[n] - Math.floorDiv(AG[kinds[1]] * chosen[n] + 128, 256));
        }
        return x2;
    }

    private void fixed(int[] x2, int[] h, int[] kinds) {
        for (int t = 0; t < 4; t++) {
            long least = -1;
            int[] best = new int[3];
            for (int candidate = 0; candidate < length / 4 * 32; candidate++) {
                kinds[3 + t] = candidate / 32;
                kinds[7 + t] = candidate / 16 % 2;
                int gi = candidate % 16;
                long error = fixedError(x2, h, kinds, t, gi);
                if (error == least && gi > 0 && best[2] > 0) {
                    MET.add("E8 tie of pulses");
                }
                if (least < 0 || error < least) {
                    least = error;
                    best = new int[] {kinds[3 + t], kinds[7 + t], gi};
                }
            }
            kinds[3 + t] = best[0];
            kinds[7 + t] = best[1];
            kinds[2] = best[2];
        }
    }

    private long fixedError(int[] x2, int[] h, int[] kinds, int lastTrack, int gi) {
        long error = 0;
        for (int n = 0; n < length; n++) {
            int z = 0;
            for (int t = 0; t <= lastTrack; t++) {
                int position = t + 4 * kinds[3 + t];
                if (position <= n) {
                    z += (kinds[7 + t] == 0 ? 1 : -1) * h[n - position];
                }
            }
            if (z != sat16(z)) {
                MET.add("E8 z too " + (z > 0 ? "large" : "small") + " for 16 bits");
            }
            long d = 4096L * x2[n] - (long) FG[gi] * z;
            error = Math.addExact(error, Math.multiplyExact(d, d));
        }
        return error;
    }

    private int[] past(Side side, int lagIndex) {
        int lag = lagIndex + 4;
        int[] v = new int[length];
        for (int n = 0; n < length; n++) {
            v[n] = side.past(lag - n % lag);
        }
        return v;
    }

    private void decode(Side side) {
        int[] v = past(side, side.kinds[0]);
        int[] u = new int[length];
        for (int n = 0; n < length; n++) {
            int track = n % 4;
            int pulse = side.kinds[3 + track] != n / 4 ? 0 : side.kinds[7 + track] == 0 ? 1 : -1;
            u[n] = cut("D3", "u", Math.floorDiv(AG[side.kinds[1]] * v[n] + 128, 256) + FG[side.kinds[2]] * pulse);
        }
        int[] c = new int[order + 1];
        for (int m = 1; m <= order; m++) {
            c[m] = KQ[side.kinds[10 + m]];
        }
        for (int n = 0; n < length; n++) {
            side.output[n] = lattice("D4", c, side.memory, u[n]);
            side.pastExcitation.add(u[n]);
        }
        side.frames++;
    }

    private int lattice(String step, int[] c, int[] b, int e) {
        int[] old = b.clone();
        int f = e;
        for (int j = order; j >= 1; j--) {
            f = cut(step, "f", f - Math.floorDiv(c[j] * old[j - 1] + 16384, 32768));
            if (j < order) {
                b[j] = cut(step, "b", old[j - 1] + Math.floorDiv(c[j] * f + 16384, 32768));
            }
        }
        b[0] = f;
        return f;
    }

    private void pack(int[] kinds) {
        StringBuilder bits = new StringBuilder();
        for (int m = 1; m <= order; m++) {
            append(bits, kinds[10 + m], 4);
        }
        append(bits, kinds[0], 5);
        append(bits, kinds[1], 3);
        for (int t = 0; t < 4; t++) {
            append(bits, kinds[3 + t], 3);
            append(bits, kinds[7 + t], 1);
        }
        append(bits, kinds[2], 4);
        while (bits.length() < 64) {
            bits.append('0');
        }
        for (int i = 0; i < 4; i++) {
            words[i] = Integer.parseInt(bits.substring(16 * i, 16 * i + 16), 2);
        }
    }

    private static void append(StringBuilder bits, int value, int width) {
        for (int i = width - 1; i >= 0; i--) {
            bits.append((value >> i) & 1);
        }
    }

    private static int take(CharSequence bits, int[] at, int width) {
        int value = Integer.parseInt(bits.subSequence(at[0], at[0] + width).toString(), 2);
        at[0] += width;
        return value;
    }

    private static int cut(String step, String name, long v) {
        if (v > 32767) {
            MET.add(step + " " + name + " too large");
        }
        if (v < -32768) {
            MET.add(step + " " + name + " too small");
        }
        return sat16(v);
    }

    private static int sat16(long v) {
        return (int) Math.max(-32768L, Math.min(32767L, v));
    }
}
