/** Promises 13 to 15: writing out, typing and reading. */
public final class BytesTest {
    private static final String REFERENCE = "ACGTACGTACGTACGT";
    private static final String PLAIN =
            "3 0 80 0 2 23 71 23 65 33 5 6 33 2 4 49 1 2 3 33 1 3 49 0 0 0";

    private BytesTest() {
    }

    public static void main(String[] args) {
        written();
        widths();
        longestRecord();
        writtenRefused();
        type();
        typeRefused();
        read();
        readAfterWriting();
        readPutsInOrder();
        readRefused();
        readOfWrongBytes();
        readOfCutBytes();
        readOfOneOtherByte();
        readWhenFull();
        Check.end();
    }

    private static void written() {
        VariantKit kit = Check.on("A".repeat(144) + REFERENCE);
        Check.draft(kit, 153, 4, "T", "CCCCCCCC");
        kit.depth(0, 127, 8000);
        kit.depth(1, 0, 4097);
        kit.genotype(0, 0, 2, true);
        kit.genotype(1, -1, 1, false);
        kit.likelihood(0, 5, 127);
        kit.likelihood(1, 0, 128);
        kit.likelihood(1, 5, 999);
        kit.add();
        String want = "153 0 1 16 3 71 65 67 71 84 23 84 135 67 67 67 67 67 67 67 67 49 127 0 0"
                + " 33 3 7 97 0 0 0 0 0 127 33 0 4 98 128 0 0 0 0 0 0 0 0 0 231 3";
        Check.due("13: written out", Check.bytes(kit, 0), want);
        Check.due("13: so many", kit.written(0, -1), want.split(" ").length);
    }

    private static void widths() {
        int[] depths = {0, 127, 128, 255, 256, 9999};
        String[] want = {"33 0 0", "33 0 127", "34 0 0 128 0", "34 0 0 255 0", "34 0 0 0 1",
            "34 0 0 15 39"};
        for (int i = 0; i < depths.length; i++) {
            VariantKit kit = Check.on(REFERENCE);
            Check.draft(kit, 1, 1, "C");
            kit.depth(1, depths[i], 0);
            kit.add();
            Check.due("13: depth " + depths[i], Check.bytes(kit, 0),
                    "1 0 0 0 2 23 65 23 67 " + want[i] + " 33 0 0 49 0 0 0 33 0 0 49 0 0 0");
        }
    }

    private static void longestRecord() {
        VariantKit kit = Check.on(REFERENCE);
        Check.draft(kit, 9, 8, "AAAAAAAA", "CCCCCCCC", "GGGGGGGG");
        kit.depth(3, 9999, 8000);
        kit.likelihood(0, 9, 999);
        kit.likelihood(1, 9, 999);
        kit.add();
        Check.due("13: the longest", kit.written(0, -1), 98);
        Check.due("13: its last byte", kit.written(0, 97), 3);
        Check.outOfBounds("13: no byte 98", () -> kit.written(0, 98));
        String bytes = Check.bytes(kit, 0);
        Check.type(kit, bytes);
        Check.due("15: the longest", kit.read(), 1);
        Check.due("15: the longest", Check.bytes(kit, 1), bytes);
    }

    private static void writtenRefused() {
        VariantKit kit = Check.on(REFERENCE);
        Check.illegalArgument("13: none", () -> kit.written(0, -1));
        Check.put(kit, 1, 1, "C");
        Check.due("13: so many", kit.written(0, -1), 26);
        Check.due("13: the last", kit.written(0, 25), 0);
        Check.outOfBounds("13: 26", () -> kit.written(0, 26));
        Check.outOfBounds("13: -2", () -> kit.written(0, -2));
        Check.outOfBounds("13: large", () -> kit.written(0, Integer.MAX_VALUE));
        Check.illegalArgument("13: record 1", () -> kit.written(1, -1));
        Check.illegalArgument("13: record -1", () -> kit.written(-1, 0));
        Check.illegalArgument("13: the record is looked at first", () -> kit.written(1, -2));
    }

    private static void type() {
        VariantKit kit = Check.on(REFERENCE);
        kit.type(0x0300500002174717L, 8);
        kit.type(0x4121050621020431L, 8);
        kit.type(-1L << 24 | 0x010203, 3);
        kit.type(-256L | 33, 1);
        kit.type(-1L << 48 | 0x010331000000L, 6);
        Check.due("14: typed and read", kit.read(), 0);
        Check.due("14: the highest first", Check.bytes(kit, 0), PLAIN);
    }

    private static void typeRefused() {
        VariantKit kit = Check.on(REFERENCE);
        Check.illegalArgument("14: n 0", () -> kit.type(0, 0));
        Check.illegalArgument("14: n 9", () -> kit.type(0, 9));
        Check.illegalArgument("14: n negative", () -> kit.type(0, Integer.MIN_VALUE));
        Check.type(kit, PLAIN);
        Check.illegalArgument("14: n 0 again", () -> kit.type(0, 0));
        Check.due("14: refused bytes are not there", kit.read(), 0);
        for (int i = 0; i < 14; i++) {
            kit.type(0, 8);
        }
        kit.type(0, 7);
        Check.illegalState("14: 121", () -> kit.type(0, 2));
        Check.illegalState("14: 127", () -> kit.type(0, 8));
        kit.type(0, 1);
        Check.illegalState("14: full", () -> kit.type(0, 1));
        Check.illegalArgument("14: n is looked at first", () -> kit.type(0, 9));
        Check.illegalArgument("14: 120 zeros", kit::read);
        kit.type(0, 8);
        Check.illegalArgument("14: there is room again", kit::read);
    }

    private static void read() {
        VariantKit kit = Check.on(REFERENCE);
        Check.type(kit, PLAIN);
        kit.draft(1, 2);
        Check.due("15: number", kit.read(), 0);
        Check.due("15: record", Check.bytes(kit, 0), PLAIN);
        Check.due("15: place", kit.about(0, 0), 3);
        Check.due("15: quality", kit.about(0, 3), 80);
        Check.illegalArgument("15: the bytes are there no more", kit::read);
        kit.allele(1, 1);
        Check.due("15: the draft stays", kit.add(), 0);
        String rich = "9 0 64 31 4 135 65 67 71 84 65 67 71 84 23 67 39 65 67 55 84 84 84"
                + " 66 0 0 1 0 2 0 15 39 33 1 9 161 0 1 2 3 4 5 6 7 8 127"
                + " 33 8 0 162 0 0 128 0 0 0 0 0 0 0 0 0 0 0 0 0 0 0 231 3";
        Check.type(kit, rich);
        Check.due("15: four alleles", kit.read(), 2);
        Check.due("15: four alleles", Check.bytes(kit, 2), rich);
    }

    /** What was written out before, and was longer, has nothing to do with what is read. */
    private static void readAfterWriting() {
        VariantKit kit = Check.on(REFERENCE);
        Check.put(kit, 9, 8, "TTTTTTTT", "CCCCCCCC", "GGGGGGGG");
        Check.due("15: a longer one was written", kit.written(0, -1), 74);
        Check.type(kit, PLAIN);
        Check.due("15: a shorter one is read", kit.read(), 0);
        Check.due("15: a shorter one is read", Check.bytes(kit, 0), PLAIN);
    }

    private static void readPutsInOrder() {
        VariantKit kit = Check.on(REFERENCE);
        Check.put(kit, 2, 1, "A");
        Check.put(kit, 3, 1, "C");
        Check.put(kit, 4, 1, "A");
        Check.type(kit, PLAIN);
        Check.due("15: behind those of its place", kit.read(), 2);
        Check.due("15: there", Check.shape(kit, 2), "3 G A");
        Check.due("15: the next", Check.shape(kit, 3), "4 T A");
    }

    private static void readRefused() {
        VariantKit kit = Check.on(REFERENCE);
        Check.illegalArgument("15: no bytes", kit::read);
        Check.type(kit, PLAIN + " 0");
        Check.illegalArgument("15: a byte too many", kit::read);
        Check.illegalArgument("15: there no more", kit::read);
        Check.type(kit, PLAIN);
        Check.due("15: the wrong bytes are gone", kit.read(), 0);
        VariantKit bare = new VariantKit();
        Check.type(bare, PLAIN);
        Check.illegalArgument("15: no reference", bare::read);
        VariantKit other = Check.on("ACTT");
        Check.type(other, PLAIN);
        Check.illegalArgument("15: another reference", other::read);
        VariantKit shorter = Check.on("AC");
        Check.type(shorter, PLAIN);
        Check.illegalArgument("15: a shorter reference", shorter::read);
    }

    private static void readOfWrongBytes() {
        String tail = " 33 2 4 49 1 2 3 33 1 3 49 0 0 0";
        String[][] wrong = {
            {"place 0", "0 0 80 0 2 23 71 23 65 33 5 6" + tail},
            {"place 17", "17 0 80 0 2 23 65 23 71 33 5 6" + tail},
            {"place 259", "3 1 80 0 2 23 71 23 65 33 5 6" + tail},
            {"the REF runs out", "16 0 80 0 2 39 84 65 23 65 33 5 6" + tail},
            {"quality 8001", "3 0 65 31 2 23 71 23 65 33 5 6" + tail},
            {"one allele", "3 0 80 0 1 23 71 17 5 33 2 2 17 0 33 2 2 17 0"},
            {"no allele", "3 0 80 0 0 1 33 0 0 1 33 0 0 1"},
            {"five alleles", "3 0 80 0 5 23 71 23 65 23 67 23 84 39 65 65 81 0 0 0 0 0"
                    + " 33 0 0 241 0 0 0 0 0 0 0 0 0 0 0 0 0 0 0"
                    + " 33 0 0 241 0 0 0 0 0 0 0 0 0 0 0 0 0 0 0"},
            {"the REF is another", "3 0 80 0 2 23 67 23 65 33 5 6" + tail},
            {"the REF twice", "3 0 80 0 2 23 71 23 71 33 5 6" + tail},
            {"no bases", "3 0 80 0 2 23 71 7 33 5 6" + tail},
            {"nine bases", "3 0 80 0 2 23 71 151 65 65 65 65 65 65 65 65 65 33 5 6" + tail},
            {"another mark of an allele", "3 0 80 0 2 23 71 17 65 33 5 6" + tail},
            {"a small letter", "3 0 80 0 2 23 71 23 97 33 5 6" + tail},
            {"an N", "3 0 80 0 2 23 71 23 78 33 5 6" + tail},
            {"one depth", "3 0 80 0 2 23 71 23 65 17 5" + tail},
            {"three depths", "3 0 80 0 2 23 71 23 65 49 5 6 7" + tail},
            {"depths too wide", "3 0 80 0 2 23 71 23 65 34 5 0 6 0" + tail},
            {"depths of 0 bytes", "3 0 80 0 2 23 71 23 65 32" + tail},
            {"depths of 3 bytes", "3 0 80 0 2 23 71 23 65 35 5 0 0 6 0 0" + tail},
            {"a depth of 128 in a byte", "3 0 80 0 2 23 71 23 65 33 5 128" + tail},
            {"depth 10000", "3 0 80 0 2 23 71 23 65 34 5 0 16 39" + tail},
            {"another mark of a sample", "3 0 80 0 2 23 71 23 65 33 5 6 34 2 4 49 1 2 3 33 1 3 49 0 0 0"},
            {"allele 2 of two", "3 0 80 0 2 23 71 23 65 33 5 6 33 2 6 49 1 2 3 33 1 3 49 0 0 0"},
            {"allele 2, first", "3 0 80 0 2 23 71 23 65 33 5 6 33 6 2 49 1 2 3 33 1 3 49 0 0 0"},
            {"half phased", "3 0 80 0 2 23 71 23 65 33 5 6 33 3 4 49 1 2 3 33 1 3 49 0 0 0"},
            {"half phased, second", "3 0 80 0 2 23 71 23 65 33 5 6 33 2 5 49 1 2 3 33 1 3 49 0 0 0"},
            {"two likelihoods", "3 0 80 0 2 23 71 23 65 33 5 6 33 2 4 33 1 2 33 1 3 49 0 0 0"},
            {"likelihood 1000", "3 0 80 0 2 23 71 23 65 33 5 6 33 2 4 50 1 0 2 0 232 3 33 1 3 49 0 0 0"},
            {"likelihoods too wide", "3 0 80 0 2 23 71 23 65 33 5 6 33 2 4 50 1 0 2 0 3 0 33 1 3 49 0 0 0"},
            {"a likelihood of 128 in a byte",
                "3 0 80 0 2 23 71 23 65 33 5 6 33 2 4 49 1 2 128 33 1 3 49 0 0 0"},
            {"depth 10000 before zeros",
                "3 0 80 0 2 23 71 23 65 34 5 0 16 39 33 0 0 49 0 0 0 33 0 0 49 0 0 0"},
            {"allele 2 before zeros",
                "3 0 80 0 2 23 71 23 65 33 5 6 33 0 6 49 0 0 0 33 0 0 49 0 0 0"},
            {"likelihood 1000 as the last one",
                "3 0 80 0 2 23 71 23 65 33 5 6 33 2 4 49 1 2 3 33 1 3 50 0 0 0 0 232 3"},
            {"one sample", "3 0 80 0 2 23 71 23 65 33 5 6 33 2 4 49 1 2 3"},
            {"three samples", PLAIN + " 33 1 3 49 0 0 0"},
            {"two records", PLAIN + " " + PLAIN},
        };
        for (String[] one : wrong) {
            VariantKit kit = Check.on(REFERENCE);
            Check.type(kit, one[1]);
            Check.illegalArgument("15: " + one[0], kit::read);
            Check.due("15: no record of " + one[0], kit.records(), 0);
            Check.illegalArgument("15: no bytes of " + one[0], kit::read);
        }
    }

    private static void readOfCutBytes() {
        String[] all = PLAIN.split(" ");
        VariantKit kit = Check.on(REFERENCE);
        for (int n = 0; n < all.length; n++) {
            for (int i = 0; i < n; i++) {
                kit.type(Long.parseLong(all[i]), 1);
            }
            Check.illegalArgument("15: only " + n + " bytes", kit::read);
        }
        Check.due("15: none was read", kit.records(), 0);
    }

    /** Whatever one byte is changed to: what is read is written out as it was typed. */
    private static void readOfOneOtherByte() {
        String[] all = PLAIN.split(" ");
        int read = 0;
        for (int at = 0; at < all.length; at++) {
            for (int value = 0; value < 256; value++) {
                String[] changed = all.clone();
                changed[at] = String.valueOf(value);
                String bytes = String.join(" ", changed);
                VariantKit kit = Check.on(REFERENCE);
                Check.type(kit, bytes);
                try {
                    kit.read();
                    read++;
                    Check.due("15: one byte changed", Check.bytes(kit, 0), bytes);
                } catch (IllegalArgumentException e) {
                    Check.due("15: no record", kit.records(), 0);
                }
            }
        }
        // Places 3, 7, 11, 15; 256 low and 31 high bytes of qualities; A, C, T; depths and likelihoods
        // of 128 values; genotypes of three alleles; and ten bytes that can only be what they are.
        int due = 4 + 256 + 31 + 3 + 2 * 128 + 6 * 128 + 4 * 3 + 10;
        Check.due("15: so many of one byte changed are records", read, due);
    }

    private static void readWhenFull() {
        VariantKit kit = Check.on(REFERENCE);
        Check.fill(kit, 1, "C");
        Check.type(kit, PLAIN);
        Check.illegalState("15: 24 records", kit::read);
        Check.illegalState("15: 24 records and no bytes", kit::read);
        Check.type(kit, "1 2 3");
        Check.illegalState("15: 24 records and wrong bytes", kit::read);
        Check.due("15: still 24", kit.records(), 24);
        kit.remove(0);
        Check.illegalArgument("15: the bytes are there no more", kit::read);
        Check.type(kit, PLAIN);
        Check.due("15: the 24th", kit.read(), 23);
    }
}
