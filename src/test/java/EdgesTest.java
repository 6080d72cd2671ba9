/**
 * Promises 1 to 20, each with the edges that its own sentences name: the first and the last argument
 * that is allowed, and the empty and the full object. What is refused is in RefusedTest, and the bounds
 * of "Terms" are in TermsTest.
 */
public final class EdgesTest {
    private static final String REFERENCE = "ACGTACGTACGTACGT";

    private EdgesTest() {
    }

    public static void main(String[] args) {
        newObject();
        referenceBits();
        referenceEmptyAndFull();
        referenceOpenAgain();
        draftAnew();
        alleleBits();
        alleleOfTheDraftAlone();
        depthAndQuality();
        genotypePhased();
        likelihoodOfTheAllelesNow();
        addNumbers();
        removeFirstAndLast();
        normaliseNumbers();
        splitInTheList();
        joinInTheList();
        writtenFirstAndLast();
        typeBits();
        typeEmptyAndFull();
        readGoesOn();
        recordsOfEachCall();
        aboutEach();
        baseFirstAndLast();
        foundFirstAndLast();
        meanOfOneAndOf24();
        Check.end();
    }

    private static void newObject() {
        Check.due("1: a new object", Probe.everything(kit -> { }),
                "found: none\ndraft: none\nbytes: 0, then no record\nreference: open \n");
        VariantKit kit = new VariantKit();
        Check.due("1: an empty list", kit.records(), 0);
        Check.noSuchElement("1: no mean", () -> kit.mean(1, 255));
    }

    /** A reference of n bases from a long, as text. */
    private static String appended(long bases, int n) {
        String seen = Probe.everything(kit -> kit.reference(bases, n));
        return seen.substring(seen.indexOf("open ") + 5, seen.length() - 1);
    }

    /** "the lowest 2 n bits of bases, the highest first" */
    private static void referenceBits() {
        Check.due("2: one", appended(2, 1), "G");
        Check.due("2: one behind higher bits", appended(-1L << 2 | 2, 1), "G");
        Check.due("2: two", appended(0b0111, 2), "CT");
        Check.due("2: fifteen", appended(0x1B1B1B1BL, 15), "CGTACGTACGTACGT");
        Check.due("2: sixteen", appended(0x1B1B1B1BL, 16), REFERENCE);
        Check.due("2: sixteen behind higher bits", appended(-1L << 32 | 0x1B1B1B1BL, 16), REFERENCE);
        Check.due("2: sixteen, the highest bit", appended(0x80000000L, 16), "G" + "A".repeat(15));
        Check.due("2: only higher bits", appended(1L << 32, 16), "A".repeat(16));
        Check.due("2: the least long", appended(Long.MIN_VALUE, 16), "A".repeat(16));
        Check.due("2: all bits", appended(-1, 16), "T".repeat(16));
        Check.due("2: the greatest long", appended(Long.MAX_VALUE, 1), "T");
    }

    /** "how many there are" */
    private static void referenceEmptyAndFull() {
        VariantKit ones = new VariantKit();
        for (int i = 1; i <= 160; i++) {
            Check.due("2: one by one", ones.reference(i, 1), i);
        }
        Check.illegalState("2: 161", () -> ones.reference(0, 1));
        VariantKit sixteens = new VariantKit();
        for (int i = 1; i <= 10; i++) {
            Check.due("2: by sixteen", sixteens.reference(i, 16), 16 * i);
        }
        Check.illegalState("2: 176", () -> sixteens.reference(0, 16));
        sixteens.draft(160, 1);
        Check.due("2: the last base is of the last call", sixteens.allele(1, 1), 1);
        Check.illegalState("2: 10 ends with a G", () -> sixteens.allele(2, 1));
    }

    /** "or there are records or a draft": no more when these are gone. */
    private static void referenceOpenAgain() {
        VariantKit kit = Check.on(REFERENCE);
        kit.type(1, 1);
        Check.due("2: bytes do not count", kit.reference(0, 1), 17);
        Check.put(kit, 1, 1, "C");
        kit.remove(0);
        Check.due("2: the record is gone", kit.reference(0, 1), 18);
        Check.put(kit, 1, 1, "C");
        Check.put(kit, 1, 1, "C");
        kit.remove(0);
        Check.illegalState("2: one is left", () -> kit.reference(0, 1));
        kit.draft(1, 1);
        kit.remove(0);
        Check.illegalState("2: a draft is left", () -> kit.reference(0, 1));
        kit.allele(1, 1);
        kit.remove(kit.add());
        Check.due("2: the draft is gone", kit.reference(0, 1), 19);
    }

    /** "A new draft in place of the one there is", with nothing of that. */
    private static void draftAnew() {
        String plain = Probe.everything(kit -> {
            Check.on(kit, REFERENCE);
            kit.draft(5, 1);
        });
        String again = Probe.everything(kit -> {
            Check.on(kit, REFERENCE);
            Check.draft(kit, 1, 8, "A", "C", "TTTTTTTT");
            for (int a = 0; a < 4; a++) {
                kit.depth(a, 9999, 8000);
            }
            for (int i = 0; i < 20; i++) {
                kit.genotype(i / 10, 3, 3, true);
                kit.likelihood(i / 10, i % 10, 999);
            }
            kit.draft(5, 1);
        });
        Check.due("3: nothing of the old one", again, plain);
        VariantKit kit = Check.on(REFERENCE);
        Check.draft(kit, 5, 1, "C", "G", "T");
        kit.add();
        Check.due("3: new", Check.bytes(kit, 0), "5 0 0 0 4 23 65 23 67 23 71 23 84 65 0 0 0 0"
                + " 33 0 0 161 0 0 0 0 0 0 0 0 0 0 33 0 0 161 0 0 0 0 0 0 0 0 0 0");
    }

    private static String alternative(long bases, int n) {
        VariantKit kit = Check.on("A");
        kit.draft(1, 1);
        kit.allele(bases, n);
        kit.add();
        return Check.allele(kit, 0, 1);
    }

    private static void alleleBits() {
        Check.due("4: one", alternative(3, 1), "T");
        Check.due("4: one behind higher bits", alternative(-1L << 2 | 1, 1), "C");
        Check.due("4: eight", alternative(0x1B1B, 8), "ACGTACGT");
        Check.due("4: eight, the highest first", alternative(0x8000, 8), "GAAAAAAA");
        Check.due("4: eight behind higher bits", alternative(-1L << 16 | 0x1B1B, 8), "ACGTACGT");
        Check.due("4: only higher bits", alternative(1L << 16, 8), "AAAAAAAA");
        Check.due("4: the least long", alternative(Long.MIN_VALUE, 2), "AA");
        Check.due("4: all bits", alternative(-1, 8), "TTTTTTTT");
    }

    /** "it has four alleles, or that one": it, not the draft before it or a record. */
    private static void alleleOfTheDraftAlone() {
        VariantKit kit = Check.on(REFERENCE);
        Check.draft(kit, 1, 1, "C", "G", "T");
        kit.draft(1, 1);
        Check.due("4: after another draft", kit.allele(1, 1), 1);
        Check.due("4: after another draft", kit.allele(2, 1), 2);
        Check.due("4: after another draft", kit.allele(3, 1), 3);
        kit.add();
        kit.draft(1, 1);
        Check.due("4: after add", kit.allele(3, 1), 1);
    }

    private static void depthAndQuality() {
        VariantKit kit = Check.on(REFERENCE);
        Check.draft(kit, 1, 1, "C", "G", "T");
        kit.depth(0, 9999, 8000);
        kit.depth(3, 0, 0);
        kit.depth(2, 1, 1);
        kit.add();
        Check.due("5: the quality is the last one said", kit.about(0, 3), 1);
        Check.due("5: each depth of its allele", Check.bytes(kit, 0).substring(0, 59),
                "1 0 1 0 4 23 65 23 67 23 71 23 84 66 15 39 0 0 1 0 0 0 33 0");
        kit.draft(1, 1);
        kit.depth(0, 3, 2);
        kit.allele(1, 1);
        kit.add();
        Check.due("5: said before the alternative came", Check.bytes(kit, 1).substring(0, 31),
                "1 0 2 0 2 23 65 23 67 33 3 0 33");
    }

    /** "PHASED or not", for each sample by itself, and said again. */
    private static void genotypePhased() {
        for (int bits = 0; bits < 4; bits++) {
            VariantKit kit = Check.on(REFERENCE);
            Check.draft(kit, 1, 1, "C");
            for (int sample = 0; sample < 2; sample++) {
                boolean phased = (bits >> sample & 1) == 1;
                kit.genotype(sample, 1, 1, !phased);
                kit.genotype(sample, -1, 0, phased);
            }
            kit.add();
            int first = bits & 1;
            int second = bits >> 1;
            Check.due("6: phased", Check.bytes(kit, 0), "1 0 0 0 2 23 65 23 67 33 0 0 33 " + first + " "
                    + (2 + first) + " 49 0 0 0 33 " + second + " " + (2 + second) + " 49 0 0 0");
        }
    }

    /** "(of the alleles that it has now)" */
    private static void likelihoodOfTheAllelesNow() {
        VariantKit kit = Check.on(REFERENCE);
        kit.draft(1, 1);
        int number = 0;
        for (int alleles = 1; alleles <= 4; alleles++) {
            for (int j = 0; j < alleles; j++) {
                kit.likelihood(0, number, 10 + number);
                kit.likelihood(1, number, 100 + number);
                number++;
            }
            int next = number;
            Check.illegalArgument("7: no pair yet", () -> kit.likelihood(0, next, 1));
            Check.illegalArgument("7: no pair yet", () -> kit.likelihood(1, next, 1));
            if (alleles < 4) {
                kit.allele(alleles, 1);
            }
        }
        kit.draft(1, 1);
        Check.illegalArgument("7: no pair of the draft before", () -> kit.likelihood(0, 1, 1));
        kit.allele(1, 1);
        kit.likelihood(0, 2, 1);
        Check.illegalArgument("7: no pair of the draft before", () -> kit.likelihood(0, 3, 1));
    }

    private static void addNumbers() {
        VariantKit kit = Check.on(REFERENCE);
        Check.due("8: into an empty list", Check.put(kit, 8, 1, "A"), 0);
        for (int i = 1; i < 23; i++) {
            Check.due("8: behind", Check.put(kit, 8, 1, "A"), i);
        }
        Check.draft(kit, 1, 1, "C");
        Check.due("8: the 24th, before all", kit.add(), 0);
        Check.illegalState("8: the draft is there no more", kit::add);
        Check.due("8: 24", kit.records(), 24);
        kit.remove(5);
        Check.due("8: the 24th, behind all", Check.put(kit, 16, 1, "A"), 23);
        kit.remove(5);
        Check.due("8: the 24th, between", Check.put(kit, 8, 2, "T"), 22);
        Check.due("8: the last one", kit.about(23, 0), 16);
    }

    private static void removeFirstAndLast() {
        VariantKit kit = Check.on(REFERENCE);
        for (int i = 0; i < 24; i++) {
            Check.draft(kit, 1 + i / 2, 1, "AA");
            kit.depth(0, 0, i);
            kit.add();
        }
        kit.remove(23);
        Check.due("9: the last of 24", kit.about(22, 3), 22);
        Check.illegalArgument("9: gone", () -> kit.about(23, 3));
        kit.remove(0);
        Check.due("9: the first", kit.about(0, 3), 1);
        Check.due("9: the last is a number lower", kit.about(21, 3), 22);
        for (int left = 22; left > 0; left--) {
            Check.due("9: left", kit.records(), left);
            kit.remove(left - 1);
        }
        Check.due("9: none left", kit.found(1, 255), 0);
        Check.illegalArgument("9: none left", () -> kit.remove(0));
    }

    /** "behind the others of its place, in any case" */
    private static void normaliseNumbers() {
        VariantKit kit = Check.on("GGGCACACACAGGG");
        for (int i = 0; i < 24; i++) {
            Check.draft(kit, i < 4 ? 3 : i < 8 ? 5 : 8, i < 8 ? 1 : 3, i < 8 ? "T" : "C");
            kit.depth(0, 0, i);
            kit.add();
        }
        Check.due("10: the only change is the order", kit.normalise(0), 3);
        Check.due("10: the last of its place stays", kit.normalise(3), 3);
        Check.due("10: from the end of a full list", kit.normalise(23), 4);
        Check.due("10: behind that", kit.normalise(23), 5);
        int[] order = {1, 2, 3, 0, 23, 22, 4, 5, 6, 7, 8};
        for (int i = 0; i < order.length; i++) {
            Check.due("10: the order", kit.about(i, 3), order[i]);
        }
        Check.due("10: moved", Check.shape(kit, 5), "3 GCA G");
        Check.due("10: the last one now", kit.about(23, 3), 21);
        Check.due("10: 24", kit.records(), 24);
        VariantKit only = Check.on("GGGCACACACAGGG");
        Check.put(only, 1, 5, "GGGCC");
        Check.due("10: the only one, to the right", only.normalise(0), 0);
        Check.due("10: to the right", Check.shape(only, 0), "5 A C");
        VariantKit last = Check.on("GGGCACACACAGGG");
        Check.put(last, 1, 5, "GGGCC");
        Check.put(last, 5, 1, "T");
        Check.put(last, 6, 1, "T");
        Check.due("10: to the right, behind one of its place", last.normalise(0), 1);
        Check.due("10: the next", Check.shape(last, 2), "6 C T");
    }

    private static void splitInTheList() {
        String[] want = {"1 A C, 1 A G, 1 A T, 1 A AG, 1 A AT", "1 A AC, 1 A C, 1 A G, 1 A T, 1 A AT",
            "1 A AC, 1 A AG, 1 A C, 1 A G, 1 A T"};
        String[] others = {"AC", "AG", "AT"};
        for (int at = 0; at < want.length; at++) {
            VariantKit kit = Check.on(REFERENCE);
            for (int i = 0; i < others.length; i++) {
                if (i == at) {
                    Check.put(kit, 1, 1, "C", "G", "T");
                } else {
                    Check.put(kit, 1, 1, others[i]);
                }
            }
            Check.due("11: parts", kit.split(at), 3);
            Check.due("11: in place of record " + at, shapes(kit), want[at]);
        }
    }

    private static String shapes(VariantKit kit) {
        StringBuilder text = new StringBuilder();
        int records = kit.records();
        for (int i = 0; i < records; i++) {
            text.append(i == 0 ? "" : ", ").append(Check.shape(kit, i));
        }
        return text.toString();
    }

    private static void joinInTheList() {
        String[] want = {"1 A C G, 1 A T, 1 A CC", "1 A C, 1 A G T, 1 A CC", "1 A C, 1 A G, 1 A T CC"};
        for (int at = 0; at < want.length; at++) {
            VariantKit kit = Check.on(REFERENCE);
            for (String alternative : new String[] {"C", "G", "T", "CC"}) {
                Check.put(kit, 1, 1, alternative);
            }
            kit.join(at);
            Check.due("12: in place of the two", shapes(kit), want[at]);
            Check.noSuchElement("12: the last one has no next", () -> kit.join(2));
        }
        VariantKit full = Check.on(REFERENCE);
        Check.fill(full, 1, "C");
        for (int records = 23; records > 0; records--) {
            full.join(0);
            Check.due("12: one fewer", full.records(), records);
        }
        Check.noSuchElement("12: one left", () -> full.join(0));
        VariantKit apart = Check.on(REFERENCE);
        Check.put(apart, 1, 1, "C");
        Check.put(apart, 1, 1, "G");
        Check.put(apart, 2, 1, "A");
        Check.noSuchElement("12: a place on", () -> apart.join(1));
        apart.join(0);
        Check.noSuchElement("12: a place on, still", () -> apart.join(0));
        Check.due("12: joined", shapes(apart), "1 A C G, 2 C A");
    }

    private static void writtenFirstAndLast() {
        VariantKit kit = Check.on(REFERENCE);
        Check.put(kit, 1, 1, "C");
        Check.draft(kit, 9, 8, "TTTTTTTT", "CCCCCCCC", "GGGGGGGG");
        kit.depth(0, 128, 0);
        kit.likelihood(0, 0, 128);
        kit.likelihood(1, 9, 999);
        kit.add();
        int[] counts = {26, 98};
        int[] firsts = {1, 9};
        int[] lasts = {0, 3};
        for (int record = 0; record < 2; record++) {
            int number = record;
            int count = counts[record];
            Check.due("13: how many", kit.written(number, -1), count);
            Check.due("13: the first", kit.written(number, 0), firsts[number]);
            Check.due("13: the last", kit.written(number, count - 1), lasts[number]);
            Check.outOfBounds("13: behind the last", () -> kit.written(number, count));
            Check.outOfBounds("13: -2", () -> kit.written(number, -2));
        }
        Check.due("13: the shortest, as it was", kit.written(0, -1), 26);
    }

    /** "the lowest n bytes of bytes, the highest of these first" */
    private static void typeBits() {
        String[] plain = Probe.PLAIN.split(" ");
        for (int n = 1; n <= 8; n++) {
            VariantKit kit = Check.on(REFERENCE);
            for (int from = 0; from < plain.length; from += n) {
                int count = Math.min(n, plain.length - from);
                // What stands above the lowest bytes must not count.
                long bytes = -1;
                for (int i = 0; i < count; i++) {
                    bytes = bytes << 8 | Long.parseLong(plain[from + i]);
                }
                kit.type(bytes, count);
            }
            Check.due("14: by " + n, kit.read(), 0);
            Check.due("14: by " + n, Check.bytes(kit, 0), Probe.PLAIN);
        }
    }

    private static void typeEmptyAndFull() {
        for (int n = 1; n <= 8; n++) {
            int last = n;
            VariantKit kit = Check.on(REFERENCE);
            for (int i = 0; i < 120 - n; i++) {
                kit.type(0, 1);
            }
            if (n < 8) {
                Check.illegalState("14: 121 by " + (n + 1), () -> kit.type(0, last + 1));
            }
            kit.type(0, n);
            Check.illegalState("14: 121 behind 120", () -> kit.type(0, 1));
            Check.illegalArgument("14: no record", kit::read);
            Check.type(kit, Probe.PLAIN);
            Check.due("14: room again", kit.read(), 0);
            for (int i = 0; i < 15; i++) {
                kit.type(0, 8);
            }
            Check.illegalState("14: full again", () -> kit.type(0, 1));
        }
        VariantKit bare = new VariantKit();
        bare.type(3, 1);
        Check.due("14: before there is a reference", bare.reference(Check.packed("ACGT"), 4), 4);
        Check.type(bare, Probe.PLAIN.substring(2));
        Check.due("14: read when there is one", bare.read(), 0);
    }

    /** "They are there no more, also when this throws" */
    private static void readGoesOn() {
        VariantKit kit = Check.on(REFERENCE);
        int half = Probe.PLAIN.indexOf(" 33 2 4");
        for (int i = 0; i < 3; i++) {
            Check.type(kit, Probe.PLAIN);
            Check.due("15: read", kit.read(), i);
            Check.illegalArgument("15: there no more", kit::read);
            Check.type(kit, Probe.PLAIN.substring(0, half));
            Check.illegalArgument("15: half of it", kit::read);
            Check.type(kit, Probe.PLAIN.substring(half + 1));
            Check.illegalArgument("15: the other half", kit::read);
            Check.due("15: so many", kit.records(), i + 1);
        }
        Check.illegalState("15: a read record counts", () -> kit.reference(0, 1));
        VariantKit full = Check.on(REFERENCE);
        Check.fill(full, 16, "A");
        Check.type(full, Probe.PLAIN);
        Check.illegalState("15: 24 records", full::read);
        full.remove(0);
        Check.illegalArgument("15: there no more, though there is room", full::read);
        Check.type(full, Probe.PLAIN);
        Check.due("15: the 24th", full.read(), 0);
        Check.illegalState("15: 24 records and no bytes", full::read);
    }

    private static void recordsOfEachCall() {
        VariantKit kit = Check.on(REFERENCE);
        Check.due("16: none", kit.records(), 0);
        kit.draft(3, 1);
        kit.allele(0, 1);
        kit.allele(3, 1);
        Check.due("16: a draft is none", kit.records(), 0);
        kit.add();
        Check.due("16: added", kit.records(), 1);
        kit.normalise(0);
        Check.due("16: normalised", kit.records(), 1);
        kit.split(0);
        Check.due("16: split", kit.records(), 2);
        Check.type(kit, Probe.PLAIN);
        Check.due("16: bytes are none", kit.records(), 2);
        kit.read();
        Check.due("16: read", kit.records(), 3);
        kit.join(0);
        Check.due("16: joined", kit.records(), 2);
        kit.remove(0);
        Check.due("16: removed", kit.records(), 1);
        Check.fill(kit, 1, "C");
        Check.due("16: full", kit.records(), 24);
    }

    private static void aboutEach() {
        VariantKit kit = Check.on("A".repeat(160));
        Check.draft(kit, 160, 1, "C", "G", "T");
        kit.depth(0, 0, 8000);
        kit.add();
        Check.put(kit, 1, 8, "C");
        int[][] want = {{1, 2, 8, 0, 3}, {160, 4, 1, 8000, 31}};
        for (int record = 0; record < 2; record++) {
            for (int what = 0; what < 5; what++) {
                Check.due("17: what " + what, kit.about(record, what), want[record][what]);
            }
        }
        kit.draft(80, 4);
        Check.due("17: of a record, not of the draft", kit.about(1, 0), 160);
    }

    private static void baseFirstAndLast() {
        VariantKit kit = Check.on(REFERENCE);
        Check.put(kit, 4, 1, "C", "GT", "TACGACGC");
        String[] alleles = {"T", "C", "GT", "TACGACGC"};
        for (int a = 0; a < alleles.length; a++) {
            int allele = a;
            int count = alleles[a].length();
            int first = "ACGT".indexOf(alleles[a].charAt(0));
            int last = "ACGT".indexOf(alleles[a].charAt(count - 1));
            Check.due("18: how many", kit.base(0, a, -1), count);
            Check.due("18: the first", kit.base(0, a, 0), first);
            Check.due("18: the last", kit.base(0, a, count - 1), last);
            Check.outOfBounds("18: behind the last", () -> kit.base(0, allele, count));
            Check.outOfBounds("18: -2", () -> kit.base(0, allele, -2));
        }
        Check.illegalArgument("18: allele 4", () -> kit.base(0, 4, -1));
        Check.illegalArgument("18: allele -1", () -> kit.base(0, -1, -1));
    }

    /** "begin is below 1 or above end, or end is above 255" */
    private static void foundFirstAndLast() {
        VariantKit empty = new VariantKit();
        Check.due("19: nothing at all", empty.found(1, 1) + empty.found(255, 255) + empty.found(1, 255), 0);
        VariantKit kit = Check.on("A".repeat(160));
        Check.put(kit, 1, 1, "C");
        Check.put(kit, 160, 1, "C");
        int[][] regions = {{1, 1, 1}, {1, 159, 1}, {1, 160, 2}, {1, 255, 2}, {2, 159, 0}, {2, 160, 1},
            {160, 160, 1}, {160, 255, 1}, {161, 255, 0}, {255, 255, 0}, {254, 255, 0}};
        for (int[] one : regions) {
            Check.due("19: " + one[0] + " to " + one[1], kit.found(one[0], one[1]), one[2]);
        }
        Check.illegalArgument("19: from 0", () -> kit.found(0, 255));
        Check.illegalArgument("19: to 256", () -> kit.found(1, 256));
        Check.illegalArgument("19: begin above end", () -> kit.found(2, 1));
        VariantKit full = Check.on(REFERENCE);
        Check.fill(full, 7, "A");
        Check.due("19: all of 24", full.found(7, 7), 24);
        full.draft(8, 1);
        Check.due("19: a draft is not found", full.found(8, 8), 0);
    }

    private static void meanOfOneAndOf24() {
        for (int quality : new int[] {0, 1, 7, 8, 7999, 8000}) {
            VariantKit kit = Check.on(REFERENCE);
            Check.draft(kit, 7, 1, "A");
            kit.depth(0, 0, quality);
            kit.add();
            Check.due("20: of one", kit.mean(7, 7), quality / 8.0);
        }
        VariantKit kit = Check.on(REFERENCE);
        float sum = 0;
        for (int i = 0; i < 24; i++) {
            Check.draft(kit, 7, 2, "A");
            kit.depth(0, 0, i == 0 ? 8000 : 331 * i);
            kit.add();
            sum += (i == 0 ? 8000 : 331 * i) * 0.125f;
            Check.due("20: of " + (i + 1), kit.mean(1, 255), sum / (i + 1));
        }
        Check.due("20: at their last place", kit.mean(8, 8), sum / 24f);
        Check.noSuchElement("20: behind", () -> kit.mean(9, 255));
        Check.noSuchElement("20: before", () -> kit.mean(1, 6));
        Check.illegalArgument("20: from 0", () -> kit.mean(0, 6));
        Check.illegalArgument("20: to 256", () -> kit.mean(9, 256));
        Check.illegalArgument("20: begin above end", () -> kit.mean(7, 6));
    }
}
