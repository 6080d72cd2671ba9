/** Promises 9, 10 and 16 to 20: removing, normalising and asking. */
public final class ListTest {
    private ListTest() {
    }

    public static void main(String[] args) {
        remove();
        normaliseForms();
        normaliseKeepsTheRest();
        normaliseMoves();
        normaliseRefused();
        records();
        about();
        bins();
        aboutRefused();
        base();
        found();
        mean();
        regionsRefused();
        Check.end();
    }

    private static void remove() {
        VariantKit kit = Check.on("ACGTACGT");
        Check.put(kit, 1, 1, "C");
        Check.put(kit, 2, 1, "A");
        Check.put(kit, 3, 1, "A");
        Check.illegalArgument("9: -1", () -> kit.remove(-1));
        Check.illegalArgument("9: 3", () -> kit.remove(3));
        kit.remove(1);
        Check.due("9: two left", kit.records(), 2);
        Check.due("9: the first stays", Check.shape(kit, 0), "1 A C");
        Check.due("9: the last moves up", Check.shape(kit, 1), "3 G A");
        kit.remove(1);
        kit.remove(0);
        Check.due("9: none left", kit.records(), 0);
        Check.illegalArgument("9: none", () -> kit.remove(0));
        Check.fill(kit, 4, "A");
        kit.draft(1, 1);
        kit.remove(23);
        Check.illegalArgument("9: 23", () -> kit.remove(23));
        kit.allele(1, 1);
        Check.due("9: the draft stays", kit.add(), 0);
    }

    private static void normalised(String reference, int place, int length, String[] alternatives,
            String want) {
        VariantKit kit = Check.on(reference);
        Check.put(kit, place, length, alternatives);
        String from = Check.shape(kit, 0);
        Check.due("10: number of " + from, kit.normalise(0), 0);
        Check.due("10: " + from, Check.shape(kit, 0), want);
        kit.normalise(0);
        Check.due("10: again " + from, Check.shape(kit, 0), want);
    }

    private static String[] alternatives(String... all) {
        return all;
    }

    private static void normaliseForms() {
        String repeat = "GGGCACACACAGGG";
        normalised(repeat, 8, 3, alternatives("C"), "3 GCA G");
        normalised(repeat, 6, 2, alternatives("CACA"), "3 G GCA");
        normalised(repeat, 8, 3, alternatives("C", "CACAC", "CACACAC"), "3 GCA G GCACA GCACACA");
        normalised(repeat, 4, 3, alternatives("CGC", "CTC", "CCC"), "5 A G T C");
        normalised(repeat, 4, 4, alternatives("CACACA"), "3 G GCA");
        normalised(repeat, 4, 5, alternatives("CAGAC"), "6 C G");
        normalised(repeat, 3, 5, alternatives("GCACG", "GCACT"), "7 A G T");
        normalised(repeat, 4, 1, alternatives("A"), "4 C A");
        normalised(repeat, 4, 2, alternatives("GA", "TA"), "4 C G T");
        normalised(repeat, 4, 2, alternatives("GA", "TC"), "4 CA GA TC");
        normalised(repeat, 4, 2, alternatives("GC"), "4 CA GC");
        normalised(repeat, 4, 2, alternatives("CG", "TC"), "4 CA CG TC");
        normalised(repeat, 4, 2, alternatives("CG", "CTT", "C"), "4 CA CG CTT C");
        normalised(repeat, 4, 3, alternatives("CG", "CATT", "CA"), "5 AC G ATT A");
        normalised(repeat, 4, 4, alternatives("CACC", "CATTA"), "6 CA CC TTA");
        normalised(repeat, 13, 1, alternatives("GG"), "11 A AG");
        // At place 1 there is no base to put in front.
        normalised("AAAAAAAA", 6, 2, alternatives("A"), "1 AA A");
        normalised("AAAAAAAA", 8, 1, alternatives("AA"), "1 A AA");
        normalised("AAAAAAAA", 3, 3, alternatives("AAAAAAAA"), "1 A AAAAAA");
        normalised("AAAAAAAA", 1, 3, alternatives("AA", "AAAA"), "1 AA A AAA");
        normalised("CATT", 1, 2, alternatives("GA"), "1 C G");
        normalised("CATT", 1, 3, alternatives("GAT", "TAT"), "1 C G T");
        normalised("CAAAAAAA", 8, 1, alternatives("AA"), "1 C CA");
        normalised("CACACACA", 7, 2, alternatives("CACA"), "1 C CAC");
        // Eight bases stay eight when they only move.
        normalised("TAAAAAAAAAAAAA", 5, 8, alternatives("A"), "1 TAAAAAAA T");
        normalised("TAAAAAAAAAAAAA", 5, 1, alternatives("AAAAAAAA"), "1 T TAAAAAAA");
    }

    private static void normaliseKeepsTheRest() {
        VariantKit kit = Check.on("GGGCACACACAGGG");
        Check.draft(kit, 8, 3, "C");
        kit.depth(0, 300, 77);
        kit.depth(1, 4, 77);
        kit.genotype(0, 1, -1, true);
        kit.genotype(1, 0, 1, false);
        kit.likelihood(0, 2, 999);
        kit.likelihood(1, 0, 8);
        kit.add();
        kit.normalise(0);
        Check.due("10: the rest", Check.bytes(kit, 0), "3 0 77 0 2 55 71 67 65 23 71"
                + " 34 44 1 4 0 33 5 1 50 0 0 0 0 231 3 33 2 4 49 8 0 0");
    }

    private static void normaliseMoves() {
        VariantKit kit = Check.on("GGGCACACACAGGG");
        Check.put(kit, 1, 1, "A");
        Check.put(kit, 3, 1, "A");
        Check.put(kit, 3, 1, "C");
        Check.put(kit, 5, 1, "C");
        Check.put(kit, 8, 3, "C");
        Check.put(kit, 9, 1, "C");
        Check.due("10: to the left, behind those there", kit.normalise(4), 3);
        Check.due("10: moved", Check.shape(kit, 3), "3 GCA G");
        Check.due("10: the next", Check.shape(kit, 4), "5 A C");
        Check.due("10: the last", Check.shape(kit, 5), "9 A C");
        Check.due("10: in its place, behind the others", kit.normalise(1), 3);
        String[] want = {"1 G A", "3 G C", "3 GCA G", "3 G A", "5 A C"};
        for (int i = 0; i < want.length; i++) {
            Check.due("10: order", Check.shape(kit, i), want[i]);
        }
        kit.remove(5);
        Check.put(kit, 1, 5, "GGGCC");
        Check.due("10: to the right, behind those there", kit.normalise(1), 5);
        Check.due("10: to the right", Check.shape(kit, 5), "5 A C");
        Check.due("10: alone of its place", kit.normalise(0), 0);
        Check.due("10: none is lost", kit.records(), 6);
        VariantKit full = Check.on("GGGCACACACAGGG");
        Check.put(full, 8, 3, "C");
        Check.fill(full, 2, "A");
        Check.due("10: in a full list", full.normalise(23), 23);
        Check.due("10: in a full list", Check.shape(full, 23), "3 GCA G");
        Check.due("10: in a full list, behind", full.normalise(0), 22);
        Check.due("10: in a full list, none is lost", full.records(), 24);
    }

    private static void normaliseRefused() {
        VariantKit kit = Check.on("ACGT");
        Check.illegalArgument("10: none", () -> kit.normalise(0));
        Check.put(kit, 1, 1, "C");
        Check.illegalArgument("10: -1", () -> kit.normalise(-1));
        Check.illegalArgument("10: 1", () -> kit.normalise(1));
        Check.illegalArgument("10: large", () -> kit.normalise(Integer.MAX_VALUE));
    }

    private static void records() {
        VariantKit kit = Check.on("ACGT");
        for (int i = 0; i < 24; i++) {
            Check.due("16: records", kit.records(), i);
            Check.put(kit, 1, 1, "C");
        }
        Check.due("16: 24", kit.records(), 24);
        kit.remove(5);
        Check.due("16: 23", kit.records(), 23);
        kit.draft(1, 1);
        Check.due("16: a draft does not count", kit.records(), 23);
    }

    private static void about() {
        VariantKit kit = Check.on("ACGTACGTACGT");
        Check.draft(kit, 6, 4, "A", "TTTTTTTT");
        kit.depth(2, 17, 4321);
        kit.add();
        Check.due("17: place", kit.about(0, 0), 6);
        Check.due("17: alleles", kit.about(0, 1), 3);
        Check.due("17: spans", kit.about(0, 2), 4);
        Check.due("17: quality", kit.about(0, 3), 4321);
        Check.due("17: bin", kit.about(0, 4), 3);
    }

    private static int bin(int place, int length) {
        VariantKit kit = Check.on("A".repeat(160));
        Check.put(kit, place, length, "C");
        return kit.about(0, 4);
    }

    /** The smallest bin by looking through all of them. */
    private static int smallestBin(int place, int length) {
        int[] sizes = {8, 32, 128, 256};
        int[] firsts = {11, 3, 1, 0};
        for (int s = 0; s < sizes.length; s++) {
            for (int b = 0; b * sizes[s] < 256; b++) {
                if (place >= b * sizes[s] && place + length <= (b + 1) * sizes[s]) {
                    return firsts[s] + b;
                }
            }
        }
        return -1;
    }

    private static void bins() {
        Check.due("17: bin of 1", bin(1, 1), 11);
        Check.due("17: bin of 7", bin(7, 1), 11);
        Check.due("17: bin of 8", bin(8, 8), 12);
        Check.due("17: bin of 7 to 8", bin(7, 2), 3);
        Check.due("17: bin of 31 to 32", bin(31, 2), 1);
        Check.due("17: bin of 63 to 64", bin(63, 2), 1);
        Check.due("17: bin of 127 to 128", bin(127, 2), 0);
        Check.due("17: bin of 128", bin(128, 8), 27);
        Check.due("17: bin of 135 to 136", bin(135, 2), 7);
        Check.due("17: bin of 159 to 160", bin(159, 2), 2);
        Check.due("17: bin of 160", bin(160, 1), 31);
        for (int place = 1; place <= 160; place++) {
            for (int length = 1; length <= 8 && place + length <= 161; length++) {
                Check.due("17: bin of " + place + ", " + length, bin(place, length),
                        smallestBin(place, length));
            }
        }
    }

    private static void aboutRefused() {
        VariantKit kit = Check.on("ACGT");
        Check.illegalArgument("17: none", () -> kit.about(0, 0));
        Check.put(kit, 1, 1, "C");
        Check.illegalArgument("17: -1", () -> kit.about(-1, 0));
        Check.illegalArgument("17: 1", () -> kit.about(1, 0));
        Check.illegalArgument("17: what -1", () -> kit.about(0, -1));
        Check.illegalArgument("17: what 5", () -> kit.about(0, 5));
    }

    private static void base() {
        VariantKit kit = Check.on("ACGTACGT");
        Check.put(kit, 1, 4, "T", "GGCATTAC");
        int[] want = {2, 2, 1, 0, 3, 3, 0, 1};
        for (int i = 0; i < want.length; i++) {
            Check.due("18: base " + i, kit.base(0, 2, i), want[i]);
        }
        Check.due("18: so many", kit.base(0, 2, -1), 8);
        Check.due("18: of the REF", kit.base(0, 0, -1), 4);
        Check.due("18: of the REF", kit.base(0, 0, 3), 3);
        Check.due("18: one base", kit.base(0, 1, -1), 1);
        Check.outOfBounds("18: base 8", () -> kit.base(0, 2, 8));
        Check.outOfBounds("18: base 1", () -> kit.base(0, 1, 1));
        Check.outOfBounds("18: base -2", () -> kit.base(0, 1, -2));
        Check.outOfBounds("18: base large", () -> kit.base(0, 1, Integer.MAX_VALUE));
        Check.illegalArgument("18: allele 3", () -> kit.base(0, 3, 0));
        Check.illegalArgument("18: allele -1", () -> kit.base(0, -1, 0));
        Check.illegalArgument("18: allele is looked at first", () -> kit.base(0, 3, -2));
        Check.illegalArgument("18: record 1", () -> kit.base(1, 0, 0));
        Check.illegalArgument("18: record -1", () -> kit.base(-1, 0, -2));
    }

    private static void found() {
        VariantKit kit = Check.on("A".repeat(160));
        Check.put(kit, 5, 4, "A");
        Check.put(kit, 5, 1, "C");
        Check.put(kit, 7, 1, "CCCCCCCC");
        Check.put(kit, 153, 8, "A");
        Check.due("19: before", kit.found(1, 4), 0);
        Check.due("19: at the begin", kit.found(1, 5), 2);
        Check.due("19: inside", kit.found(6, 6), 1);
        Check.due("19: one more", kit.found(6, 7), 2);
        Check.due("19: the last place", kit.found(8, 8), 1);
        Check.due("19: an alternative does not span", kit.found(9, 152), 0);
        Check.due("19: all", kit.found(1, 255), 4);
        Check.due("19: to 160", kit.found(160, 160), 1);
        Check.due("19: behind", kit.found(161, 255), 0);
        Check.due("19: 255", kit.found(255, 255), 0);
        Check.due("19: around", kit.found(4, 9), 3);
        kit.remove(0);
        Check.due("19: after remove", kit.found(6, 6), 0);
    }

    private static void mean() {
        VariantKit kit = Check.on("A".repeat(40));
        int[] qualities = {8000, 1, 7999};
        for (int i = 0; i < qualities.length; i++) {
            Check.draft(kit, 10 * i + 1, 2, "C");
            kit.depth(0, 0, qualities[i]);
            kit.add();
        }
        Check.due("20: one", kit.mean(1, 1), 1000.0f);
        Check.due("20: two", kit.mean(2, 11), 500.0625f);
        Check.due("20: three", kit.mean(1, 255), 2000f / 3f);
        Check.due("20: the last", kit.mean(12, 22), (0.125f + 999.875f) / 2f);
        Check.noSuchElement("20: none", () -> kit.mean(3, 10));
        Check.noSuchElement("20: none behind", () -> kit.mean(41, 255));
        Check.put(kit, 30, 1, "C");
        Check.due("20: of quality 0", kit.mean(30, 30), 0);
        Check.due("20: a third as a float", kit.mean(11, 30), (0.125f + 999.875f + 0f) / 3f);
        kit.remove(3);
        Check.noSuchElement("20: a removed one", () -> kit.mean(30, 30));
        VariantKit empty = new VariantKit();
        Check.noSuchElement("20: empty", () -> empty.mean(1, 255));
    }

    private static void regionsRefused() {
        VariantKit kit = Check.on("ACGT");
        int[][] wrong = {{0, 3}, {-1, 1}, {2, 1}, {1, 256}, {256, 256}, {0, 0},
            {Integer.MIN_VALUE, Integer.MAX_VALUE}, {1, Integer.MAX_VALUE}};
        for (int records = 0; records < 2; records++) {
            for (int[] region : wrong) {
                String name = region[0] + ", " + region[1];
                Check.illegalArgument("19: " + name, () -> kit.found(region[0], region[1]));
                Check.illegalArgument("20: " + name, () -> kit.mean(region[0], region[1]));
            }
            Check.put(kit, 1, 1, "C");
        }
    }
}
