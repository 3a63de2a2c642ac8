public final class CelpSpeechCodec {
    public static final int SIDE_ENCODER = 0;
    public static final int SIDE_DECODER = 1;
    public static final int FIELD_LAG = 0;
    public static final int FIELD_ADAPTIVE_GAIN = 1;
    public static final int FIELD_FIXED_GAIN = 2;
    public static final int FIELD_SLOT0 = 3;
    public static final int FIELD_SIGN0 = 7;
    public static final int FIELD_K1 = 11;
    public static final int LAG_MIN = 4;
    public static final int LAG_COUNT = 32;
    public static final int HISTORY = 64;
    public static final int MIN_ORDER = 2;
    public static final int MAX_ORDER = 6;
    public static final int MIN_FRAME = 8;
    public static final int MAX_FRAME = 32;

    private static final int TRACKS = 4;
    private static final int WORDS = 4;
    private static final int KINDS = 17;
    private static final int LEVELS = 16;
    private static final int ADAPTIVE_GAINS = 8;
    private static final int ADAPTIVE_GAIN_STEP = 37;
    private static final int IMPULSE = 4096;
    private static final int REFLECTION_LIMIT = 32767;
    private static final long UNIT_SQUARED = 1073741824L;
    private static final long GREATEST_LONG = 9223372036854775807L;

    private static final int SIDES = 2;
    // The search runs the lattice on a memory row of its own, so that neither side's is touched.
    private static final int TRIAL_ROW = 2;
    private static final int MEMORY_CELLS = 3 * MAX_ORDER;
    private static final int HISTORY_CELLS = SIDES * HISTORY;
    private static final int OUTPUT_CELLS = SIDES * MAX_FRAME;
    private static final int FIELD_CELLS = SIDES * KINDS;
    private static final int REFLECTION_CELLS = SIDES * MAX_ORDER;
    private static final int CORRELATION_CELLS = MAX_ORDER + 1;

    private final int order;
    private final int frameLength;
    private final int slotCount;

    private final int[] reflectionLevels = new int[LEVELS];
    private final int[] pulseLevels = new int[LEVELS];

    // State of both sides, one row for each side in every array.
    private final int[] memory = new int[MEMORY_CELLS];
    private final int[] history = new int[HISTORY_CELLS];
    private final int[] output = new int[OUTPUT_CELLS];
    private final int[] fields = new int[FIELD_CELLS];
    private final int[] frameCounts = new int[SIDES];
    // Kept beside the indices because they must be 0 before a side's first frame, and KQ[0] is not.
    private final int[] reflections = new int[REFLECTION_CELLS];

    private final int[] samples = new int[MAX_FRAME];
    private final int[] rawReflections = new int[MAX_ORDER];
    private int pending;
    // The four packed words side by side, W0 in the highest 16 bits.
    private long encodedStream;

    // Room for intermediate values: no answer is read from these.
    private final long[] correlation = new long[CORRELATION_CELLS];
    private final long[] predictor = new long[CORRELATION_CELLS];
    private final long[] oldPredictor = new long[CORRELATION_CELLS];
    private final int[] target = new int[MAX_FRAME];
    private final int[] impulseResponse = new int[MAX_FRAME];
    private final int[] pastExcitation = new int[MAX_FRAME];
    private final int[] filteredPast = new int[MAX_FRAME];
    private final int[] chosenPulses = new int[MAX_FRAME];
    private final int[] trialPulses = new int[MAX_FRAME];
    private final int[] pulseSigns = new int[MAX_FRAME];
    private final int[] excitation = new int[MAX_FRAME];
    private final int[] receivedFields = new int[KINDS];

    public CelpSpeechCodec(int order, int frameLength) {
        int length = clamp(frameLength, MIN_FRAME, MAX_FRAME);
        this.order = clamp(order, MIN_ORDER, MAX_ORDER);
        this.frameLength = length - length % TRACKS;
        this.slotCount = length / TRACKS;
        fillReflectionLevels();
        fillPulseLevels();
    }

    public int getOrder() {
        return order;
    }

    public int getFrameLength() {
        return frameLength;
    }

    public int getBitCount() {
        return 4 * order + 28;
    }

    public boolean putSample(int sample) {
        if (pending >= frameLength) {
            return false;
        }
        samples[pending] = saturate(sample);
        pending++;
        return true;
    }

    public int getPending() {
        return pending;
    }

    public boolean encodeFrame() {
        if (pending < frameLength) {
            return false;
        }
        deriveRawReflections();
        quantiseReflections();
        formTarget();
        formImpulseResponse();
        searchAdaptive();
        removeAdaptivePart();
        searchPulses();
        packFields();
        synthesise(SIDE_ENCODER);
        pending = 0;
        return true;
    }

    public int getWord(int i) {
        if (i < 0 || i >= WORDS) {
            return 0;
        }
        return (int) ((encodedStream >>> (48 - 16 * i)) & 65535L);
    }

    public int getRawReflection(int m) {
        if (m < 1 || m > order) {
            return 0;
        }
        return rawReflections[m - 1];
    }

    public int getReflection(int side, int m) {
        if (!isSide(side) || m < 1 || m > order) {
            return 0;
        }
        return reflections[side * MAX_ORDER + m - 1];
    }

    public int getField(int side, int kind) {
        if (!isSide(side) || kind < 0 || kind >= FIELD_K1 + order) {
            return -1;
        }
        return fields[side * KINDS + kind];
    }

    public boolean decodeFrame(int w0, int w1, int w2, int w3) {
        long stream = ((w0 & 65535L) << 48) | ((w1 & 65535L) << 32) | ((w2 & 65535L) << 16) | (w3 & 65535L);
        unpackFields(stream);
        if (!receivedSlotsFit()) {
            return false;
        }
        storeReceivedFields();
        synthesise(SIDE_DECODER);
        return true;
    }

    public int getOutput(int side, int n) {
        if (!isSide(side) || n < 0 || n >= frameLength) {
            return 0;
        }
        return output[side * MAX_FRAME + n];
    }

    public int getExcitation(int side, int j) {
        if (!isSide(side) || j < 1 || j > HISTORY) {
            return 0;
        }
        return history[side * HISTORY + j - 1];
    }

    public int getMemory(int side, int m) {
        if (!isSide(side) || m < 0 || m >= order) {
            return 0;
        }
        return memory[side * MAX_ORDER + m];
    }

    public int getFrameCount(int side) {
        if (!isSide(side)) {
            return 0;
        }
        return frameCounts[side];
    }

    private void fillReflectionLevels() {
        reflectionLevels[8] = 3277;
        reflectionLevels[9] = 9011;
        reflectionLevels[10] = 14746;
        reflectionLevels[11] = 19661;
        reflectionLevels[12] = 23757;
        reflectionLevels[13] = 27034;
        reflectionLevels[14] = 29491;
        reflectionLevels[15] = 31130;
        for (int i = 0; i < 8; i++) {
            reflectionLevels[i] = -reflectionLevels[15 - i];
        }
    }

    private void fillPulseLevels() {
        pulseLevels[0] = 0;
        pulseLevels[1] = 16;
        pulseLevels[2] = 23;
        pulseLevels[3] = 32;
        pulseLevels[4] = 45;
        pulseLevels[5] = 64;
        pulseLevels[6] = 91;
        pulseLevels[7] = 128;
        pulseLevels[8] = 181;
        pulseLevels[9] = 256;
        pulseLevels[10] = 362;
        pulseLevels[11] = 512;
        pulseLevels[12] = 724;
        pulseLevels[13] = 1024;
        pulseLevels[14] = 1448;
        pulseLevels[15] = 2048;
    }

    private static boolean isSide(int side) {
        return side == SIDE_ENCODER || side == SIDE_DECODER;
    }

    private static int clamp(long value, int least, int greatest) {
        if (value < least) {
            return least;
        }
        if (value > greatest) {
            return greatest;
        }
        return (int) value;
    }

    private static int saturate(long value) {
        return clamp(value, -32768, 32767);
    }

    private void deriveRawReflections() {
        for (int m = 0; m < order; m++) {
            rawReflections[m] = 0;
        }
        measureCorrelation();
        if (correlation[0] > 0) {
            scaleCorrelation();
            runRecursion();
        }
    }

    private void measureCorrelation() {
        for (int i = 0; i <= order; i++) {
            long sum = 0;
            for (int n = i; n < frameLength; n++) {
                sum += (long) samples[n] * samples[n - i];
            }
            correlation[i] = sum;
        }
    }

    private void scaleCorrelation() {
        long divisor = correlation[0] + (correlation[0] >> 7) + 1;
        if (divisor > 0) {
            for (int i = 0; i <= order; i++) {
                correlation[i] = (correlation[i] * 32767) / divisor;
            }
        }
    }

    private void runRecursion() {
        for (int m = 1; m <= order; m++) {
            predictor[m] = 0;
        }
        long residual = correlation[0];
        for (int m = 1; m <= order; m++) {
            if (residual > 0) {
                long mismatch = predictionMismatch(m);
                int k = clamp(-(mismatch / residual), -REFLECTION_LIMIT, REFLECTION_LIMIT);
                rawReflections[m - 1] = k;
                extendPredictor(m, k);
                residual = (residual * (UNIT_SQUARED - (long) k * k)) >> 30;
            }
        }
    }

    private long predictionMismatch(int m) {
        long sum = correlation[m] * 32768;
        for (int j = 1; j < m; j++) {
            sum += predictor[j] * correlation[m - j];
        }
        return sum;
    }

    private void extendPredictor(int m, int k) {
        for (int j = 1; j < m; j++) {
            oldPredictor[j] = predictor[j];
        }
        for (int j = 1; j < m; j++) {
            predictor[j] = oldPredictor[j] + ((k * oldPredictor[m - j] + 16384) >> 15);
        }
        predictor[m] = k;
    }

    private void quantiseReflections() {
        for (int m = 0; m < order; m++) {
            int q = nearestReflectionLevel(rawReflections[m]);
            fields[SIDE_ENCODER * KINDS + FIELD_K1 + m] = q;
            reflections[SIDE_ENCODER * MAX_ORDER + m] = reflectionLevels[q];
        }
    }

    private int nearestReflectionLevel(int k) {
        int best = 0;
        int bestDistance = distance(k, reflectionLevels[0]);
        for (int i = 1; i < LEVELS; i++) {
            int candidate = distance(k, reflectionLevels[i]);
            if (candidate < bestDistance) {
                best = i;
                bestDistance = candidate;
            }
        }
        return best;
    }

    private static int distance(int a, int b) {
        return a < b ? b - a : a - b;
    }

    private void formTarget() {
        for (int m = 0; m < order; m++) {
            memory[TRIAL_ROW * MAX_ORDER + m] = memory[SIDE_ENCODER * MAX_ORDER + m];
        }
        for (int n = 0; n < frameLength; n++) {
            int ringing = latticeStep(SIDE_ENCODER, TRIAL_ROW, 0);
            target[n] = saturate(samples[n] - ringing);
        }
    }

    private void formImpulseResponse() {
        for (int m = 0; m < order; m++) {
            memory[TRIAL_ROW * MAX_ORDER + m] = 0;
        }
        for (int n = 0; n < frameLength; n++) {
            int input = n == 0 ? IMPULSE : 0;
            impulseResponse[n] = latticeStep(SIDE_ENCODER, TRIAL_ROW, input);
        }
    }

    private int latticeStep(int side, int memoryRow, int input) {
        int c = side * MAX_ORDER - 1;
        int b = memoryRow * MAX_ORDER;
        int f = input;
        for (int j = order; j >= 1; j--) {
            f = saturate(f - ((reflections[c + j] * memory[b + j - 1] + 16384) >> 15));
            if (j < order) {
                memory[b + j] = saturate(memory[b + j - 1] + ((reflections[c + j] * f + 16384) >> 15));
            }
        }
        memory[b] = f;
        return f;
    }

    private void searchAdaptive() {
        long leastError = GREATEST_LONG;
        int bestLag = 0;
        int bestGain = 0;
        for (int lagIndex = 0; lagIndex < LAG_COUNT; lagIndex++) {
            formPastExcitation(SIDE_ENCODER, lagIndex);
            filterPastExcitation();
            for (int gain = 0; gain < ADAPTIVE_GAINS; gain++) {
                long error = adaptiveError(gain);
                if (error < leastError) {
                    leastError = error;
                    bestLag = lagIndex;
                    bestGain = gain;
                }
            }
        }
        fields[SIDE_ENCODER * KINDS + FIELD_LAG] = bestLag;
        fields[SIDE_ENCODER * KINDS + FIELD_ADAPTIVE_GAIN] = bestGain;
    }

    private void formPastExcitation(int side, int lagIndex) {
        int lag = lagIndex + LAG_MIN;
        for (int n = 0; n < frameLength; n++) {
            if (n < lag) {
                pastExcitation[n] = history[side * HISTORY + lag - n - 1];
            } else {
                pastExcitation[n] = pastExcitation[n - lag];
            }
        }
    }

    private void filterPastExcitation() {
        for (int n = 0; n < frameLength; n++) {
            long sum = 0;
            for (int j = 0; j <= n; j++) {
                sum += (long) pastExcitation[j] * impulseResponse[n - j];
            }
            filteredPast[n] = saturate((sum + 2048) >> 12);
        }
    }

    private long adaptiveError(int gain) {
        long sum = 0;
        for (int n = 0; n < frameLength; n++) {
            long difference = 256 * target[n] - ADAPTIVE_GAIN_STEP * gain * filteredPast[n];
            sum += difference * difference;
        }
        return sum;
    }

    private void removeAdaptivePart() {
        int gain = ADAPTIVE_GAIN_STEP * fields[SIDE_ENCODER * KINDS + FIELD_ADAPTIVE_GAIN];
        formPastExcitation(SIDE_ENCODER, fields[SIDE_ENCODER * KINDS + FIELD_LAG]);
        filterPastExcitation();
        for (int n = 0; n < frameLength; n++) {
            target[n] = saturate(target[n] - ((gain * filteredPast[n] + 128) >> 8));
        }
    }

    private void searchPulses() {
        for (int n = 0; n < frameLength; n++) {
            chosenPulses[n] = 0;
        }
        for (int track = 0; track < TRACKS; track++) {
            searchTrack(track);
            keepPulse(track);
        }
    }

    private void searchTrack(int track) {
        long leastError = GREATEST_LONG;
        int bestSlot = 0;
        int bestSign = 0;
        int bestGain = 0;
        for (int slot = 0; slot < slotCount; slot++) {
            for (int sign = 0; sign < 2; sign++) {
                formTrialPulses(track + TRACKS * slot, sign);
                for (int gain = 0; gain < LEVELS; gain++) {
                    long error = pulseError(pulseLevels[gain]);
                    if (error < leastError) {
                        leastError = error;
                        bestSlot = slot;
                        bestSign = sign;
                        bestGain = gain;
                    }
                }
            }
        }
        fields[SIDE_ENCODER * KINDS + FIELD_SLOT0 + track] = bestSlot;
        fields[SIDE_ENCODER * KINDS + FIELD_SIGN0 + track] = bestSign;
        // Each track overwrites it, so that the last track's choice stands.
        fields[SIDE_ENCODER * KINDS + FIELD_FIXED_GAIN] = bestGain;
    }

    private void formTrialPulses(int position, int sign) {
        for (int n = 0; n < frameLength; n++) {
            int response = n < position ? 0 : impulseResponse[n - position];
            trialPulses[n] = chosenPulses[n] + (sign == 0 ? response : -response);
        }
    }

    private long pulseError(int level) {
        long sum = 0;
        for (int n = 0; n < frameLength; n++) {
            long difference = 4096 * target[n] - level * trialPulses[n];
            sum += difference * difference;
        }
        return sum;
    }

    private void keepPulse(int track) {
        int slot = fields[SIDE_ENCODER * KINDS + FIELD_SLOT0 + track];
        int sign = fields[SIDE_ENCODER * KINDS + FIELD_SIGN0 + track];
        formTrialPulses(track + TRACKS * slot, sign);
        for (int n = 0; n < frameLength; n++) {
            chosenPulses[n] = trialPulses[n];
        }
    }

    private void packFields() {
        int base = SIDE_ENCODER * KINDS;
        long stream = 0;
        for (int m = 0; m < order; m++) {
            stream = (stream << 4) | fields[base + FIELD_K1 + m];
        }
        stream = (stream << 5) | fields[base + FIELD_LAG];
        stream = (stream << 3) | fields[base + FIELD_ADAPTIVE_GAIN];
        for (int track = 0; track < TRACKS; track++) {
            stream = (stream << 3) | fields[base + FIELD_SLOT0 + track];
            stream = (stream << 1) | fields[base + FIELD_SIGN0 + track];
        }
        stream = (stream << 4) | fields[base + FIELD_FIXED_GAIN];
        encodedStream = stream << (36 - 4 * order);
    }

    private void unpackFields(long stream) {
        int at = 0;
        for (int m = 0; m < order; m++) {
            receivedFields[FIELD_K1 + m] = bitsAt(stream, at, 4);
            at += 4;
        }
        receivedFields[FIELD_LAG] = bitsAt(stream, at, 5);
        receivedFields[FIELD_ADAPTIVE_GAIN] = bitsAt(stream, at + 5, 3);
        at += 8;
        for (int track = 0; track < TRACKS; track++) {
            receivedFields[FIELD_SLOT0 + track] = bitsAt(stream, at, 3);
            receivedFields[FIELD_SIGN0 + track] = bitsAt(stream, at + 3, 1);
            at += 4;
        }
        receivedFields[FIELD_FIXED_GAIN] = bitsAt(stream, at, 4);
    }

    private static int bitsAt(long stream, int at, int width) {
        return (int) (stream >>> (64 - at - width)) & ((1 << width) - 1);
    }

    private boolean receivedSlotsFit() {
        for (int track = 0; track < TRACKS; track++) {
            if (receivedFields[FIELD_SLOT0 + track] >= slotCount) {
                return false;
            }
        }
        return true;
    }

    private void storeReceivedFields() {
        for (int kind = 0; kind < FIELD_K1 + order; kind++) {
            fields[SIDE_DECODER * KINDS + kind] = receivedFields[kind];
        }
        for (int m = 0; m < order; m++) {
            reflections[SIDE_DECODER * MAX_ORDER + m] = reflectionLevels[receivedFields[FIELD_K1 + m]];
        }
    }

    private void synthesise(int side) {
        formPastExcitation(side, fields[side * KINDS + FIELD_LAG]);
        placePulses(side);
        mixExcitation(side);
        for (int n = 0; n < frameLength; n++) {
            output[side * MAX_FRAME + n] = latticeStep(side, side, excitation[n]);
        }
        shiftHistory(side);
        frameCounts[side]++;
    }

    private void placePulses(int side) {
        for (int n = 0; n < frameLength; n++) {
            pulseSigns[n] = 0;
        }
        for (int track = 0; track < TRACKS; track++) {
            int slot = fields[side * KINDS + FIELD_SLOT0 + track];
            int sign = fields[side * KINDS + FIELD_SIGN0 + track];
            pulseSigns[track + TRACKS * slot] = sign == 0 ? 1 : -1;
        }
    }

    private void mixExcitation(int side) {
        int gain = ADAPTIVE_GAIN_STEP * fields[side * KINDS + FIELD_ADAPTIVE_GAIN];
        int level = pulseLevels[fields[side * KINDS + FIELD_FIXED_GAIN]];
        for (int n = 0; n < frameLength; n++) {
            excitation[n] = saturate(((gain * pastExcitation[n] + 128) >> 8) + level * pulseSigns[n]);
        }
    }

    private void shiftHistory(int side) {
        int base = side * HISTORY;
        // From the far end, so that each value is read before it is overwritten.
        for (int j = HISTORY - 1; j >= frameLength; j--) {
            history[base + j] = history[base + j - frameLength];
        }
        for (int j = 0; j < frameLength; j++) {
            history[base + j] = excitation[frameLength - 1 - j];
        }
    }
}
