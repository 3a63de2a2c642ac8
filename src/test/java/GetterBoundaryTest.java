// The boundary cases of promises 8 to 11 and 13 to 16, a test for each sentence.
public final class GetterBoundaryTest {
    // Each of these, times a row's length, would wrap around to an index inside an array.
    private static final int[] WRONG_SIDES = {Integer.MIN_VALUE, Integer.MIN_VALUE + 1, -(1 << 26), -65536, -3, -2, -1,
        2, 3, 4, 256, 65536, 1 << 26, 1 << 27, 1 << 28, 1 << 29, 1 << 30, 0x2aaaaaab, 0x55555556, 0x0f0f0f0f,
        Integer.MAX_VALUE - 1, Integer.MAX_VALUE};
    private static final int[] FAR = {Integer.MIN_VALUE, Integer.MIN_VALUE + 1, Integer.MIN_VALUE + 64, -65536, -128,
        -65, -64, -33, -32, -18, -17, -16, -12, -7, -6, -3, -2, 65, 66, 67, 96, 128, 65536, 1 << 30,
        Integer.MAX_VALUE - 1, Integer.MAX_VALUE};
    private static final Check check = new Check();

    public static void main(String[] args) {
        check.sentence("8: answers Wi for i in 0..3", GetterBoundaryTest::wordsInRange);
        check.sentence("8: a value in 0..65535", GetterBoundaryTest::wordsAreUnsigned);
        check.sentence("8: for any other i it answers 0", GetterBoundaryTest::wordsOutOfRange);
        check.sentence("8: Before any frame it answers 0", GetterBoundaryTest::wordsBeforeAnyFrame);
        check.sentence("8: of the last encoded frame", GetterBoundaryTest::wordsStayOverOtherCalls);
        check.sentence("8: Bits of the stream at positions B and beyond are 0", GetterBoundaryTest::wordsEndAtTheBitCount);
        check.sentence("8: getWord changes nothing", GetterBoundaryTest::askingWordsChangesNothing);
        check.sentence("9: for m in 1..P", GetterBoundaryTest::rawInRange);
        check.sentence("9: a value in -32767..32767", GetterBoundaryTest::rawAtItsLimits);
        check.sentence("9: for any other m it answers 0", GetterBoundaryTest::rawOutOfRange);
        check.sentence("9: Before any frame it answers 0", GetterBoundaryTest::rawBeforeAnyFrame);
        check.sentence("9: of the last encoded frame", GetterBoundaryTest::rawStaysOverOtherCalls);
        check.sentence("9: getRawReflection changes nothing", GetterBoundaryTest::askingRawChangesNothing);
        check.sentence("10: for side in 0..1 and m in 1..P", GetterBoundaryTest::reflectionsInRange);
        check.sentence("10: 0 if no frame has been made on that side yet", GetterBoundaryTest::reflectionsBeforeAFrame);
        check.sentence("10: 0 if m is out of range", GetterBoundaryTest::reflectionsOutOfRange);
        check.sentence("10: 0 if side is out of range", GetterBoundaryTest::reflectionsOfWrongSides);
        check.sentence("10: -32768 < getReflection(side, m) < 32768", GetterBoundaryTest::reflectionsAreBelowOne);
        check.sentence("10: getReflection changes nothing", GetterBoundaryTest::askingReflectionsChangesNothing);
        check.sentence("11: each kind has its range", GetterBoundaryTest::fieldsInTheirRanges);
        check.sentence("11: Before the side's first frame, every valid kind answers 0",
            GetterBoundaryTest::fieldsBeforeAFrame);
        check.sentence("11: -1 if side is not 0..1", GetterBoundaryTest::fieldsOfWrongSides);
        check.sentence("11: -1 if kind is not 0..16", GetterBoundaryTest::fieldsOfWrongKinds);
        check.sentence("11: -1 if kind >= FIELD_K1 + P", GetterBoundaryTest::fieldsPastTheOrder);
        check.sentence("11: getField changes nothing", GetterBoundaryTest::askingFieldsChangesNothing);
        check.sentence("13: n in 0..N-1", GetterBoundaryTest::outputsInRange);
        check.sentence("13: a value in -32768..32767", GetterBoundaryTest::outputsAtTheirLimits);
        check.sentence("13: otherwise 0: n", GetterBoundaryTest::outputsOutOfRange);
        check.sentence("13: otherwise 0: side", GetterBoundaryTest::outputsOfWrongSides);
        check.sentence("13: Before the side's first frame it answers 0", GetterBoundaryTest::outputsBeforeAFrame);
        check.sentence("13: getOutput changes nothing", GetterBoundaryTest::askingOutputsChangesNothing);
        check.sentence("14: j in 1..64", GetterBoundaryTest::excitationInRange);
        check.sentence("14: a value in -32768..32767", GetterBoundaryTest::excitationAtItsLimits);
        check.sentence("14: otherwise 0 (including j = 0 and j > 64)", GetterBoundaryTest::excitationOutOfRange);
        check.sentence("14: otherwise 0: side", GetterBoundaryTest::excitationOfWrongSides);
        check.sentence("14: Before the side's first frame it answers 0", GetterBoundaryTest::excitationBeforeAFrame);
        check.sentence("14: getExcitation changes nothing", GetterBoundaryTest::askingExcitationChangesNothing);
        check.sentence("15: m in 0..P-1", GetterBoundaryTest::memoryInRange);
        check.sentence("15: a value in -32768..32767", GetterBoundaryTest::memoryAtItsLimits);
        check.sentence("15: otherwise 0: m", GetterBoundaryTest::memoryOutOfRange);
        check.sentence("15: otherwise 0: side", GetterBoundaryTest::memoryOfWrongSides);
        check.sentence("15: The copy used in E4 and the all-zero memory of E5 are never shown",
            GetterBoundaryTest::trialMemoryIsNeverShown);
        check.sentence("15: Before the side's first frame it answers 0", GetterBoundaryTest::memoryBeforeAFrame);
        check.sentence("15: getMemory changes nothing", GetterBoundaryTest::askingMemoryChangesNothing);
        check.sentence("16: 0 for any other side", GetterBoundaryTest::countsOfWrongSides);
        check.sentence("16: A fresh object answers 0 for both sides", GetterBoundaryTest::countsAtFirst);
        check.sentence("16: the encoder count grows only by successful encodeFrame calls",
            GetterBoundaryTest::encoderCount);
        check.sentence("16: the decoder count only by successful decodeFrame calls", GetterBoundaryTest::decoderCount);
        check.sentence("16: getFrameCount changes nothing", GetterBoundaryTest::askingCountsChangesNothing);
        check.finish();
    }

    // Nine frames on each side, those of side 1 sent by another codec.
    private static CelpSpeechCodec full(int order, int length) {
        CelpSpeechCodec codec = new CelpSpeechCodec(order, length);
        CelpSpeechCodec sender = new CelpSpeechCodec(order, length);
        for (int frame = 0; frame < 9; frame++) {
            for (int n = 0; n < length; n++) {
                codec.putSample((n * 1237 + frame * 771) % 5003 - 2500);
                sender.putSample((n * 2003 + frame * 317) % 9001 - 4500);
            }
            codec.encodeFrame();
            sender.encodeFrame();
            codec.decodeFrame(sender.getWord(0), sender.getWord(1), sender.getWord(2), sender.getWord(3));
        }
        return codec;
    }

    private static void wordsInRange() {
        CelpSpeechCodec codec = Check.encoded(6, new int[] {769, -5040, 11825, -16182, 14538, -8501, 2816, -313});
        check.due("W0", codec.getWord(0), 0xedcc);
        check.due("W1", codec.getWord(1), 0xcf00);
        check.due("W2", codec.getWord(2), 0x0122);
        check.due("W3", codec.getWord(3), 0xd000);
    }

    private static void wordsAreUnsigned() {
        CelpSpeechCodec codec = Check.encoded(6, new int[] {769, -5040, 11825, -16182, 14538, -8501, 2816, -313});
        check.due("W0 with its highest bit", codec.getWord(0), 60876);
        check.due("W1 with its highest bit", codec.getWord(1), 52992);
        check.due("W3 with its highest bit", codec.getWord(3), 53248);
        CelpSpeechCodec other = Check.encoded(2, new int[] {295, -456, 261, 211, -644, 745, -487, 131});
        check.due("W2 with its highest bit", other.getWord(2), 40960);
    }

    private static void wordsOutOfRange() {
        CelpSpeechCodec codec = Check.encoded(6, new int[] {769, -5040, 11825, -16182, 14538, -8501, 2816, -313});
        for (int i : new int[] {-1, -2, -3, -4, 4, 5, 6, 7, 8, 16, 64, -64, 1 << 28, -(1 << 28)}) {
            check.due("getWord(" + i + ")", codec.getWord(i), 0);
        }
        for (int i : FAR) {
            check.due("getWord(" + i + ")", codec.getWord(i), 0);
        }
    }

    private static void wordsBeforeAnyFrame() {
        CelpSpeechCodec codec = new CelpSpeechCodec(6, 8);
        Check.putRepeated(codec, 7000, 7);
        codec.encodeFrame();
        codec.decodeFrame(0x1234, 0x5600, 0x0101, 0xf000);
        codec.putSample(-7000);
        for (int i = -1; i <= 4; i++) {
            check.due("getWord(" + i + ")", codec.getWord(i), 0);
        }
    }

    private static void wordsStayOverOtherCalls() {
        CelpSpeechCodec codec = Check.encoded(6, new int[] {769, -5040, 11825, -16182, 14538, -8501, 2816, -313});
        int[] due = {0xedcc, 0xcf00, 0x0122, 0xd000};
        Check.putRepeated(codec, 400, 7);
        check.due("a frame short of one sample", codec.encodeFrame(), false);
        codec.decodeFrame(0x1234, 0x5600, 0x0101, 0xf000);
        codec.putSample(400);
        for (int i = 0; i < 4; i++) {
            check.due("W" + i + " before the next frame", codec.getWord(i), due[i]);
        }
        codec.encodeFrame();
        check.due("W0 of the next frame is another", codec.getWord(0) != due[0], true);
    }

    private static void wordsEndAtTheBitCount() {
        int[] lastWord = {2, 2, 2, 2, 3};
        int[] unused = {0x0fff, 0x00ff, 0x000f, 0, 0x0fff};
        for (int order = 2; order <= 6; order++) {
            CelpSpeechCodec codec = full(order, 32);
            int last = lastWord[order - 2];
            check.due("unused bits of order " + order, codec.getWord(last) & unused[order - 2], 0);
            if (last == 2) {
                check.due("W3 of order " + order, codec.getWord(3), 0);
            }
        }
        CelpSpeechCodec five = Check.encoded(5,
            new int[] {382, -2777, 7867, -14402, 19834, -21801, 19502, -14103, 7961, -3229, 771, -57});
        check.due("W2 is full at order 5", five.getWord(2), 0x445e);
        check.due("W3 is empty at order 5", five.getWord(3), 0);
    }

    private static void askingWordsChangesNothing() {
        check.changesNothing("getWord", () -> Check.busy(4, 16), codec -> {
            for (int i : FAR) {
                codec.getWord(i);
            }
            for (int i = -2; i < 6; i++) {
                codec.getWord(i);
            }
        });
    }

    private static void rawInRange() {
        CelpSpeechCodec codec = Check.encoded(6, new int[] {769, -5040, 11825, -16182, 14538, -8501, 2816, -313});
        int[] due = {29086, 26429, 24485, 23197, 23807, 32767};
        for (int m = 1; m <= 6; m++) {
            check.due("k" + m, codec.getRawReflection(m), due[m - 1]);
        }
    }

    private static void rawAtItsLimits() {
        CelpSpeechCodec high = Check.encoded(6, new int[] {769, -5040, 11825, -16182, 14538, -8501, 2816, -313});
        check.due("greatest k6", high.getRawReflection(6), 32767);
        CelpSpeechCodec low = Check.encoded(5,
            new int[] {189, 1386, 4024, 7679, 11232, 13398, 13343, 11096, 7524, 3911, 1336, 181});
        check.due("least k5", low.getRawReflection(5), -32767);
    }

    private static void rawOutOfRange() {
        for (int order = 2; order <= 6; order++) {
            CelpSpeechCodec codec = full(order, 12);
            for (int m : FAR) {
                check.due("getRawReflection(" + m + ")", codec.getRawReflection(m), 0);
            }
            check.due("getRawReflection(0)", codec.getRawReflection(0), 0);
            check.due("getRawReflection(-1)", codec.getRawReflection(-1), 0);
            check.due("getRawReflection(P) is not 0", codec.getRawReflection(order) != 0, true);
            for (int m = order + 1; m <= 17; m++) {
                check.due("getRawReflection(" + m + ") at order " + order, codec.getRawReflection(m), 0);
            }
        }
    }

    private static void rawBeforeAnyFrame() {
        CelpSpeechCodec codec = new CelpSpeechCodec(6, 8);
        Check.putAll(codec, 500, 700, 900, 700, 500, 300, 100);
        codec.encodeFrame();
        codec.decodeFrame(0x1234, 0x5600, 0x0101, 0xf000);
        codec.putSample(-100);
        for (int m = 0; m <= 7; m++) {
            check.due("getRawReflection(" + m + ")", codec.getRawReflection(m), 0);
        }
    }

    private static void rawStaysOverOtherCalls() {
        CelpSpeechCodec codec = Check.encoded(2, new int[] {0, 0, 1000, 1000, 0, 0, 0, 0});
        Check.putRepeated(codec, 0, 7);
        codec.encodeFrame();
        codec.decodeFrame(0x1234, 0, 0xf000, 0);
        codec.putSample(0);
        check.due("k1 before the next frame", codec.getRawReflection(1), -16384);
        check.due("k2 before the next frame", codec.getRawReflection(2), 10922);
        codec.encodeFrame();
        check.due("k1 of the next frame", codec.getRawReflection(1), 0);
        check.due("k2 of the next frame", codec.getRawReflection(2), 0);
    }

    private static void askingRawChangesNothing() {
        check.changesNothing("getRawReflection", () -> Check.busy(4, 16), codec -> {
            for (int i : FAR) {
                codec.getRawReflection(i);
            }
            for (int i = -1; i < 9; i++) {
                codec.getRawReflection(i);
            }
        });
    }

    private static void reflectionsInRange() {
        for (int order = 2; order <= 6; order++) {
            CelpSpeechCodec codec = full(order, 12);
            for (int side = 0; side < 2; side++) {
                for (int m = 1; m <= order; m++) {
                    int due = ReferenceCodec.KQ[codec.getField(side, 10 + m)];
                    check.due("getReflection(" + side + ", " + m + ")", codec.getReflection(side, m), due);
                }
            }
        }
    }

    // The indices are 0 then, and KQ[0] is not 0; the other side's frames and refused frames don't count.
    private static void reflectionsBeforeAFrame() {
        CelpSpeechCodec encoder = Check.encoded(3, new int[] {10, 20, 30, 40, 50, 60, 70, 80});
        encoder.decodeFrame(0xffff, 0xffff, 0xffff, 0);
        CelpSpeechCodec decoder = new CelpSpeechCodec(3, 8);
        decoder.decodeFrame(0, 0, 0, 0);
        Check.putRepeated(decoder, 900, 7);
        decoder.encodeFrame();
        decoder.putSample(900);
        for (int m = 1; m <= 3; m++) {
            check.due("getReflection(1, " + m + ") with frames of side 0", encoder.getReflection(1, m), 0);
            check.due("getReflection(0, " + m + ") with frames of side 1", decoder.getReflection(0, m), 0);
            check.due("getReflection(1, " + m + ") after words 0", decoder.getReflection(1, m), -31130);
        }
    }

    private static void reflectionsOutOfRange() {
        for (int order = 2; order <= 6; order++) {
            CelpSpeechCodec codec = full(order, 12);
            for (int side = 0; side < 2; side++) {
                String name = "getReflection(" + side + ", ";
                check.due(name + "-1)", codec.getReflection(side, -1), 0);
                check.due(name + "0)", codec.getReflection(side, 0), 0);
                check.due(name + "P) is not 0", codec.getReflection(side, order) != 0, true);
                for (int m = order + 1; m <= 17; m++) {
                    check.due(name + m + ")", codec.getReflection(side, m), 0);
                }
                for (int m : FAR) {
                    check.due(name + m + ")", codec.getReflection(side, m), 0);
                }
            }
        }
    }

    private static void reflectionsOfWrongSides() {
        CelpSpeechCodec codec = full(6, 32);
        for (int side : WRONG_SIDES) {
            for (int m = -13; m <= 13; m++) {
                check.due("getReflection(" + side + ", " + m + ")", codec.getReflection(side, m), 0);
            }
        }
    }

    private static void reflectionsAreBelowOne() {
        CelpSpeechCodec codec = new CelpSpeechCodec(6, 32);
        for (int word = 0; word < 65536; word += 0x1111) {
            codec.decodeFrame(word, word, word, word);
            for (int side = -1; side <= 2; side++) {
                for (int m = -1; m <= 8; m++) {
                    int answer = codec.getReflection(side, m);
                    check.due("getReflection " + answer, answer > -32768 && answer < 32768, true);
                }
            }
        }
    }

    private static void askingReflectionsChangesNothing() {
        check.changesNothing("getReflection", () -> Check.busy(4, 16), codec -> {
            for (int side = -2; side < 4; side++) {
                for (int i : FAR) {
                    codec.getReflection(side, i);
                }
                for (int i = -1; i < 9; i++) {
                    codec.getReflection(side, i);
                }
            }
        });
    }

    private static void fieldsInTheirRanges() {
        int[] greatest = {31, 7, 15, 7, 7, 7, 7, 1, 1, 1, 1, 15, 15, 15, 15, 15, 15};
        int[] bits = {5, 3, 4, 3, 3, 3, 3, 1, 1, 1, 1, 4, 4, 4, 4, 4, 4};
        int[] at = {24, 29, 48, 32, 36, 40, 44, 35, 39, 43, 47, 0, 4, 8, 12, 16, 20};
        for (int kind = 0; kind < 17; kind++) {
            for (int value = 0; value <= greatest[kind]; value++) {
                long stream = (long) value << (64 - at[kind] - bits[kind]);
                CelpSpeechCodec codec = new CelpSpeechCodec(6, 32);
                codec.decodeFrame((int) (stream >>> 48), (int) (stream >>> 32), (int) (stream >>> 16), (int) stream);
                for (int other = 0; other < 17; other++) {
                    check.due("kind " + other + " of kind " + kind + " = " + value, codec.getField(1, other),
                        other == kind ? value : 0);
                }
            }
        }
    }

    private static void fieldsBeforeAFrame() {
        for (int order = 2; order <= 6; order++) {
            CelpSpeechCodec encoder = new CelpSpeechCodec(order, 8);
            Check.putAll(encoder, 9000, -8000, 7000, -5000, 3000, 1000, -4000);
            encoder.encodeFrame();
            CelpSpeechCodec decoder = Check.encoded(order, new int[] {9000, -8000, 7000, -5000, 3000, 1000, -4000, 8});
            check.due("all slots 7", decoder.decodeFrame(-1, -1, -1, -1), false);
            encoder.decodeFrame(0x3210, 0x0101, 0x1010, 0x2000);
            for (int kind = 0; kind < 11 + order; kind++) {
                check.due("getField(0, " + kind + ")", encoder.getField(0, kind), 0);
                check.due("getField(1, " + kind + ")", decoder.getField(1, kind), 0);
            }
        }
    }

    private static void fieldsOfWrongSides() {
        for (CelpSpeechCodec codec : new CelpSpeechCodec[] {full(6, 32), new CelpSpeechCodec(6, 32)}) {
            for (int side : WRONG_SIDES) {
                for (int kind = -18; kind <= 35; kind++) {
                    check.due("getField(" + side + ", " + kind + ")", codec.getField(side, kind), -1);
                }
            }
        }
    }

    private static void fieldsOfWrongKinds() {
        for (CelpSpeechCodec codec : new CelpSpeechCodec[] {full(6, 32), new CelpSpeechCodec(6, 32)}) {
            for (int side = 0; side < 2; side++) {
                for (int kind : FAR) {
                    check.due("getField(" + side + ", " + kind + ")", codec.getField(side, kind), -1);
                }
                check.due("getField(" + side + ", -1)", codec.getField(side, -1), -1);
                check.due("getField(" + side + ", 0) is a kind", codec.getField(side, 0) >= 0, true);
                check.due("getField(" + side + ", 16) is a kind", codec.getField(side, 16) >= 0, true);
                for (int kind = 17; kind < 64; kind++) {
                    check.due("getField(" + side + ", " + kind + ")", codec.getField(side, kind), -1);
                }
            }
        }
    }

    private static void fieldsPastTheOrder() {
        for (int order = 2; order <= 6; order++) {
            for (CelpSpeechCodec codec : new CelpSpeechCodec[] {full(order, 16), new CelpSpeechCodec(order, 16)}) {
                for (int side = 0; side < 2; side++) {
                    String name = "order " + order + ": getField(" + side + ", ";
                    check.due(name + "last kind)", codec.getField(side, 10 + order) >= 0, true);
                    for (int kind = 11 + order; kind <= 17; kind++) {
                        check.due(name + kind + ")", codec.getField(side, kind), -1);
                    }
                }
            }
        }
    }

    private static void askingFieldsChangesNothing() {
        check.changesNothing("getField", () -> Check.busy(4, 16), codec -> {
            for (int side = -2; side < 4; side++) {
                for (int i : FAR) {
                    codec.getField(side, i);
                }
                for (int i = -1; i < 18; i++) {
                    codec.getField(side, i);
                }
            }
        });
    }

    private static void outputsInRange() {
        CelpSpeechCodec codec = Check.encoded(2, new int[] {295, -456, 261, 211, -644, 745, -487, 131});
        check.outputs("first and last", codec, 0, 0, -362, 116, 145, -649, 740, -445, 341);
        Check.decodeOwnWords(codec);
        check.outputs("first and last", codec, 1, 0, -362, 116, 145, -649, 740, -445, 341);
        for (int length = 8; length <= 32; length += 4) {
            CelpSpeechCodec impulses = new CelpSpeechCodec(2, length);
            impulses.decodeFrame(0x7700, length / 4 - 1 << 1, 0xf000, 0);
            check.due("o[0] at length " + length, impulses.getOutput(1, 0), 2048);
            check.due("o[N-1] at length " + length + " is not 0", impulses.getOutput(1, length - 1) != 0, true);
        }
    }

    private static void outputsAtTheirLimits() {
        CelpSpeechCodec codec = new CelpSpeechCodec(3, 8);
        codec.decodeFrame(0xffdf, 0xf010, 0x3f00, 0);
        check.due("greatest output", codec.getOutput(1, 4), 32767);
        check.due("least output", codec.getOutput(1, 5), -32768);
    }

    private static void outputsOutOfRange() {
        for (int length = 8; length <= 32; length += 4) {
            CelpSpeechCodec codec = full(4, length);
            for (int side = 0; side < 2; side++) {
                String name = "length " + length + ": getOutput(" + side + ", ";
                check.due(name + "-1)", codec.getOutput(side, -1), 0);
                check.due(name + "N-1) is not 0", codec.getOutput(side, length - 1) != 0, true);
                for (int n = length; n <= 70; n++) {
                    check.due(name + n + ")", codec.getOutput(side, n), 0);
                }
                for (int n : FAR) {
                    check.due(name + n + ")", codec.getOutput(side, n), 0);
                }
            }
        }
    }

    private static void outputsOfWrongSides() {
        CelpSpeechCodec codec = full(6, 32);
        for (int side : WRONG_SIDES) {
            for (int n = -65; n <= 65; n++) {
                check.due("getOutput(" + side + ", " + n + ")", codec.getOutput(side, n), 0);
            }
        }
    }

    private static void outputsBeforeAFrame() {
        for (int side = 0; side < 2; side++) {
            CelpSpeechCodec codec = otherSideBusy(side);
            for (int n = 0; n < 8; n++) {
                check.due("getOutput(" + side + ", " + n + ")", codec.getOutput(side, n), 0);
            }
        }
    }

    // Frames on the other side, and a refused frame on this one.
    private static CelpSpeechCodec otherSideBusy(int side) {
        CelpSpeechCodec codec = new CelpSpeechCodec(3, 8);
        Check.putAll(codec, 9000, 8000, 7000, -5000, 3000, 1000, -4000);
        codec.encodeFrame();
        codec.putSample(2000);
        codec.decodeFrame(-1, -1, -1, -1);
        for (int frame = 0; frame < 9; frame++) {
            if (side == 1) {
                codec.encodeFrame();
                Check.putRepeated(codec, 700 * frame, 8);
            } else {
                codec.decodeFrame(0x1d37, 0x0123, 0x2f00, 0);
            }
        }
        return codec;
    }

    private static void askingOutputsChangesNothing() {
        check.changesNothing("getOutput", () -> Check.busy(4, 16), codec -> {
            for (int side = -2; side < 4; side++) {
                for (int i : FAR) {
                    codec.getOutput(side, i);
                }
                for (int i = -1; i < 40; i++) {
                    codec.getOutput(side, i);
                }
            }
        });
    }

    // Eight frames of 8 fill the history; the oldest sample of all is the first frame's first.
    private static void excitationInRange() {
        CelpSpeechCodec codec = new CelpSpeechCodec(2, 8);
        for (int frame = 1; frame <= 8; frame++) {
            codec.decodeFrame(0x8800, 0x0202, frame << 12, 0);
        }
        check.due("X(1)", codec.getExcitation(1, 1), 181);
        check.due("X(64)", codec.getExcitation(1, 64), 16);
        check.due("X(57)", codec.getExcitation(1, 57), 16);
        check.due("X(56)", codec.getExcitation(1, 56), 23);
    }

    private static void excitationAtItsLimits() {
        CelpSpeechCodec high = new CelpSpeechCodec(2, 8);
        CelpSpeechCodec low = new CelpSpeechCodec(2, 8);
        for (int frame = 0; frame < 20; frame++) {
            high.decodeFrame(0x7727, 0, 0xf000, 0);
            low.decodeFrame(0x7727, 0x1111, 0xf000, 0);
        }
        check.due("greatest X(8)", high.getExcitation(1, 8), 32767);
        check.due("least X(8)", low.getExcitation(1, 8), -32768);
    }

    private static void excitationOutOfRange() {
        CelpSpeechCodec codec = new CelpSpeechCodec(2, 8);
        for (int frame = 1; frame <= 9; frame++) {
            codec.decodeFrame(0x8800, 0x0202, 0xf000, 0);
            Check.putAll(codec, 9000, 8000, 7000, -5000, 3000, 1000, -4000, 9000);
            codec.encodeFrame();
        }
        check.due("X(1) is not 0", codec.getExcitation(1, 1) != 0, true);
        check.due("X(64) is not 0", codec.getExcitation(1, 64) != 0, true);
        for (int side = 0; side < 2; side++) {
            for (int j = -70; j <= 0; j++) {
                check.due("getExcitation(" + side + ", " + j + ")", codec.getExcitation(side, j), 0);
            }
            for (int j = 65; j <= 200; j++) {
                check.due("getExcitation(" + side + ", " + j + ")", codec.getExcitation(side, j), 0);
            }
            for (int j : FAR) {
                check.due("getExcitation(" + side + ", " + j + ")", codec.getExcitation(side, j), 0);
            }
        }
    }

    private static void excitationOfWrongSides() {
        CelpSpeechCodec codec = full(6, 32);
        for (int side : WRONG_SIDES) {
            for (int j = -130; j <= 130; j++) {
                check.due("getExcitation(" + side + ", " + j + ")", codec.getExcitation(side, j), 0);
            }
        }
    }

    private static void excitationBeforeAFrame() {
        for (int side = 0; side < 2; side++) {
            CelpSpeechCodec codec = otherSideBusy(side);
            for (int j = 1; j <= 64; j++) {
                check.due("getExcitation(" + side + ", " + j + ")", codec.getExcitation(side, j), 0);
            }
        }
    }

    private static void askingExcitationChangesNothing() {
        check.changesNothing("getExcitation", () -> Check.busy(4, 16), codec -> {
            for (int side = -2; side < 4; side++) {
                for (int i : FAR) {
                    codec.getExcitation(side, i);
                }
                for (int i = -1; i < 70; i++) {
                    codec.getExcitation(side, i);
                }
            }
        });
    }

    private static void memoryInRange() {
        CelpSpeechCodec codec = Check.encoded(6, new int[] {769, -5040, 11825, -16182, 14538, -8501, 2816, -313});
        check.memory("order 6", codec, 0, -6278, 4832, -4741, 70, 859, 719);
        Check.decodeOwnWords(codec);
        check.memory("order 6", codec, 1, -6278, 4832, -4741, 70, 859, 719);
    }

    private static void memoryAtItsLimits() {
        CelpSpeechCodec high = new CelpSpeechCodec(3, 8);
        high.decodeFrame(0x0f10, 0x8220, 0x0f00, 0);
        check.memory("greatest cell", high, 1, 32767, 1638, 2489);
        CelpSpeechCodec low = new CelpSpeechCodec(3, 8);
        low.decodeFrame(0x1f10, 0x9331, 0x1f00, 0);
        check.memory("least cell", low, 1, -32768, -3277, -2768);
    }

    private static void memoryOutOfRange() {
        for (int order = 2; order <= 6; order++) {
            CelpSpeechCodec codec = full(order, 12);
            for (int side = 0; side < 2; side++) {
                String name = "order " + order + ": getMemory(" + side + ", ";
                check.due(name + "-1)", codec.getMemory(side, -1), 0);
                check.due(name + "P-1) is not 0", codec.getMemory(side, order - 1) != 0, true);
                for (int m = order; m <= 20; m++) {
                    check.due(name + m + ")", codec.getMemory(side, m), 0);
                }
                for (int m : FAR) {
                    check.due(name + m + ")", codec.getMemory(side, m), 0);
                }
            }
        }
    }

    private static void memoryOfWrongSides() {
        CelpSpeechCodec codec = full(6, 32);
        for (int side : WRONG_SIDES) {
            for (int m = -20; m <= 20; m++) {
                check.due("getMemory(" + side + ", " + m + ")", codec.getMemory(side, m), 0);
            }
        }
    }

    // The memory shown is always the one that rule D alone, on the same words, leaves.
    private static void trialMemoryIsNeverShown() {
        for (int order = 2; order <= 6; order++) {
            CelpSpeechCodec codec = new CelpSpeechCodec(order, 16);
            CelpSpeechCodec ruleD = new CelpSpeechCodec(order, 16);
            for (int frame = 0; frame < 6; frame++) {
                for (int n = 0; n < 16; n++) {
                    codec.putSample((n * 2311 + frame * 5003) % 16001 - 8000);
                }
                codec.encodeFrame();
                ruleD.decodeFrame(codec.getWord(0), codec.getWord(1), codec.getWord(2), codec.getWord(3));
                for (int m = 0; m < order; m++) {
                    check.due("cell " + m + " of side 0", codec.getMemory(0, m), ruleD.getMemory(1, m));
                    check.due("cell " + m + " of side 1", codec.getMemory(1, m), 0);
                    check.due("cell " + m + " of side 2", codec.getMemory(2, m), 0);
                }
            }
        }
    }

    private static void memoryBeforeAFrame() {
        for (int side = 0; side < 2; side++) {
            CelpSpeechCodec codec = otherSideBusy(side);
            for (int m = 0; m < 3; m++) {
                check.due("getMemory(" + side + ", " + m + ")", codec.getMemory(side, m), 0);
            }
        }
    }

    private static void askingMemoryChangesNothing() {
        check.changesNothing("getMemory", () -> Check.busy(4, 16), codec -> {
            for (int side = -2; side < 4; side++) {
                for (int i : FAR) {
                    codec.getMemory(side, i);
                }
                for (int i = -1; i < 9; i++) {
                    codec.getMemory(side, i);
                }
            }
        });
    }

    private static void countsOfWrongSides() {
        CelpSpeechCodec codec = full(2, 8);
        for (int side : WRONG_SIDES) {
            check.due("getFrameCount(" + side + ")", codec.getFrameCount(side), 0);
        }
        check.due("getFrameCount(0)", codec.getFrameCount(0), 9);
        check.due("getFrameCount(1)", codec.getFrameCount(1), 9);
    }

    private static void countsAtFirst() {
        CelpSpeechCodec codec = new CelpSpeechCodec(2, 8);
        check.due("getFrameCount(0)", codec.getFrameCount(0), 0);
        check.due("getFrameCount(1)", codec.getFrameCount(1), 0);
    }

    private static void encoderCount() {
        CelpSpeechCodec codec = new CelpSpeechCodec(2, 8);
        for (int frame = 0; frame < 40; frame++) {
            for (int n = 0; n < 8; n++) {
                codec.encodeFrame();
                codec.putSample(n);
                codec.decodeFrame(0, 0, 0, 0);
                codec.decodeFrame(0, 0xffff, 0, 0);
                check.due("before frame " + frame, codec.getFrameCount(0), frame);
            }
            codec.putSample(99);
            codec.encodeFrame();
            check.due("after frame " + frame, codec.getFrameCount(0), frame + 1);
        }
    }

    private static void decoderCount() {
        CelpSpeechCodec codec = new CelpSpeechCodec(2, 8);
        for (int frame = 0; frame < 40; frame++) {
            Check.putRepeated(codec, 10 * frame, 9);
            codec.encodeFrame();
            codec.encodeFrame();
            for (int track = 0; track < 4; track++) {
                codec.decodeFrame(0, 0x4000 >> 4 * track, 0, 0);
            }
            check.due("before frame " + frame, codec.getFrameCount(1), frame);
            codec.decodeFrame(0, 0x2222, 0, 0);
            check.due("after frame " + frame, codec.getFrameCount(1), frame + 1);
        }
    }

    private static void askingCountsChangesNothing() {
        check.changesNothing("getFrameCount", () -> Check.busy(4, 16), codec -> {
            for (int side : WRONG_SIDES) {
                codec.getFrameCount(side);
            }
            check.due("getFrameCount(0)", codec.getFrameCount(0), 9);
            check.due("getFrameCount(1)", codec.getFrameCount(1), 8);
        });
    }
}
