import java.util.Arrays;

/**
 * The bounds that "Terms" names, each sentence in a test of its own: the last value that is allowed and
 * the first one that is not, on both sides, by every call that the value can come through.
 */
public final class TermsTest {
    /** 160 bases without a short period; places 1 to 9 are ACGTTGCAC. */
    private static final String LONG = "ACGTTGCACCATGGAT".repeat(3) + "TTAGACCGTACGATCA".repeat(3)
            + "GGCATTACGCTAAGTC".repeat(4);

    private TermsTest() {
    }

    public static void main(String[] args) {
        referenceOfAtMost160();
        placesFrom1();
        alleleOf1To8Bases();
        twoToFourAlleles();
        noTwoTheSame();
        refIsOfTheReference();
        qualityOf0To8000();
        depthOf0To9999();
        genotypeOfAlleles();
        likelihoodOf0To999();
        pairsOfAlleles();
        spansThePlacesOfTheRef();
        listOfAtMost24();
        listInOrder();
        normaliseAtTheFirstPlaces();
        normaliseOfShortAlleles();
        splitWhenAboveOne();
        joinOfTheLongerRef();
        joinOfFourAlleles();
        joinOfEightBases();
        joinedNumbers();
        joinedGenotypes();
        joinedLikelihoods();
        writtenWidths();
        writtenNumbers();
        bins();
        Check.end();
    }

    private static Model.Entry entry(int place, String... alleles) {
        Model.Entry entry = new Model.Entry();
        entry.place = place;
        for (String allele : alleles) {
            entry.alleles.add(allele);
            entry.depths.add(0);
        }
        return entry;
    }

    private static Model.Entry withQuality(int quality) {
        Model.Entry entry = entry(1, "A", "C");
        entry.quality = quality;
        return entry;
    }

    private static String bytes(Model.Entry entry) {
        return Model.bytes(entry).toString().replaceAll("[\\[\\],]", "");
    }

    private static void readable(String what, Model.Entry entry) {
        VariantKit kit = Check.on(LONG);
        Check.type(kit, bytes(entry));
        if (Check.isDone(kit::read)) {
            Check.due("read, " + what, Check.bytes(kit, 0), bytes(entry));
        } else {
            Check.complain("read, " + what + ", is refused");
        }
    }

    private static void unreadable(String what, Model.Entry entry) {
        VariantKit kit = Check.on(LONG);
        Check.type(kit, bytes(entry));
        Check.illegalArgument("read, " + what, kit::read);
        Check.due("read, " + what + ", no record", kit.records(), 0);
    }

    private static void referenceOfAtMost160() {
        for (int n = 1; n <= 16; n++) {
            int last = n;
            VariantKit exact = Check.on(LONG.substring(0, 160 - n));
            Check.due("160 by " + n, exact.reference(0, n), 160);
            Check.illegalState("161 behind 160", () -> exact.reference(0, 1));
            VariantKit more = Check.on(LONG.substring(0, 161 - n));
            Check.illegalState("161 by " + n, () -> more.reference(0, last));
            if (n > 1) {
                Check.due("160 after 161 was refused", more.reference(0, n - 1), 160);
            }
        }
    }

    private static void placesFrom1() {
        VariantKit kit = Check.on(LONG);
        int[][] allowed = {{1, 1}, {1, 8}, {2, 8}, {152, 8}, {153, 8}, {159, 2}, {160, 1}};
        for (int[] one : allowed) {
            Check.draft(kit, one[0], one[1], "TTTTTTT");
            int record = kit.add();
            Check.due("the REF at " + one[0], Check.allele(kit, record, 0),
                    LONG.substring(one[0] - 1, one[0] - 1 + one[1]));
        }
        int[][] refused = {{0, 1}, {0, 8}, {154, 8}, {160, 2}, {161, 1}, {161, 8}};
        for (int[] one : refused) {
            Check.illegalArgument("draft " + one[0] + ", " + one[1], () -> kit.draft(one[0], one[1]));
        }
        readable("place 1", entry(1, "A", "C"));
        readable("place 160", entry(160, LONG.substring(159), "AA"));
        readable("places 153 to 160", entry(153, LONG.substring(152), "A"));
        unreadable("place 0", entry(0, "A", "C"));
        unreadable("place 161", entry(161, "A", "C"));
        unreadable("places 154 to 161", entry(154, LONG.substring(153) + "A", "A"));
        unreadable("place 257", entry(257, "A", "C"));
        unreadable("place 65535", entry(65535, "A", "C"));
    }

    private static void alleleOf1To8Bases() {
        String other = "TTTTTTTTT";
        for (int n = 0; n <= 9; n++) {
            int length = n;
            String ref = LONG.substring(0, n);
            String alternative = other.substring(0, n);
            VariantKit kit = Check.on(LONG);
            if (n == 0 || n == 9) {
                Check.illegalArgument("a REF of " + n, () -> kit.draft(1, length));
                kit.draft(1, 1);
                Check.illegalArgument("an allele of " + n, () -> kit.allele(0, length));
                unreadable("a REF of " + n, entry(1, ref, "G"));
                unreadable("an allele of " + n, entry(1, "A", alternative));
                unreadable("a last allele of " + n, entry(1, "A", "C", "G", alternative));
            } else {
                kit.draft(1, length);
                Check.due("an allele of " + n, kit.allele(Check.packed(alternative), length), 1);
                kit.add();
                Check.due("alleles of " + n, Check.shape(kit, 0), "1 " + ref + " " + alternative);
                readable("a REF of " + n, entry(1, ref, "G"));
                readable("an allele of " + n, entry(1, "A", alternative));
            }
        }
    }

    private static void twoToFourAlleles() {
        String[] all = {"A", "C", "G", "T", "AA"};
        for (int n = 1; n <= 5; n++) {
            VariantKit kit = Check.on(LONG);
            kit.draft(1, 1);
            for (int a = 1; a < Math.min(n, 4); a++) {
                Check.due("allele", kit.allele(a, 1), a);
            }
            if (n == 1) {
                Check.illegalState("add of one allele", kit::add);
            } else if (n == 5) {
                Check.illegalState("a fifth allele", () -> kit.allele(0, 2));
            } else {
                Check.due("add of " + n, kit.add(), 0);
                Check.due("alleles", kit.about(0, 1), n);
            }
            Model.Entry entry = entry(1, Arrays.copyOf(all, n));
            if (n >= 2 && n <= 4) {
                readable(n + " alleles", entry);
            } else {
                unreadable(n + " alleles", entry);
            }
        }
        unreadable("no allele", entry(1));
    }

    private static void noTwoTheSame() {
        String[] all = {"A", "CC", "GGG", "TTTTTTTT"};
        for (int j = 0; j < 4; j++) {
            for (int k = 1; k < 4; k++) {
                if (j < k) {
                    String[] twice = all.clone();
                    twice[k] = all[j];
                    unreadable("alleles " + j + " and " + k + " the same", entry(1, twice));
                    VariantKit kit = Check.on(LONG);
                    Check.draft(kit, 1, 1, Arrays.copyOfRange(all, 1, k));
                    String same = all[j];
                    Check.illegalState("alleles " + j + " and " + k + " the same",
                            () -> kit.allele(Check.packed(same), same.length()));
                    Check.due("another one", kit.allele(Check.packed(all[k]), all[k].length()), k);
                }
            }
        }
        readable("no two the same", entry(1, all));
        readable("the same bits, of other lengths", entry(1, "A", "AA", "AAA", "AAAAAAAA"));
    }

    private static void refIsOfTheReference() {
        readable("the REF", entry(2, "CGTTGCAC", "A"));
        unreadable("another last base", entry(2, "CGTTGCAA", "A"));
        unreadable("another first base", entry(2, "AGTTGCAC", "C"));
        unreadable("a place too low", entry(1, "CGTTGCAC", "A"));
        unreadable("a place too high", entry(3, "CGTTGCAC", "A"));
    }

    private static void qualityOf0To8000() {
        VariantKit kit = Check.on(LONG);
        for (int quality : new int[] {0, 1, 255, 256, 7999, 8000}) {
            Check.draft(kit, 1, 1, "C");
            kit.depth(0, 0, quality);
            Check.due("quality " + quality, kit.about(kit.add(), 3), quality);
            readable("quality " + quality, withQuality(quality));
        }
        kit.draft(1, 1);
        Check.illegalArgument("quality -1", () -> kit.depth(0, 0, -1));
        Check.illegalArgument("quality 8001", () -> kit.depth(0, 0, 8001));
        for (int quality : new int[] {8001, 8192, 32768, 65535}) {
            unreadable("quality " + quality, withQuality(quality));
        }
    }

    private static void depthOf0To9999() {
        for (int allele = 0; allele < 4; allele++) {
            int number = allele;
            VariantKit kit = Check.on(LONG);
            Check.draft(kit, 1, 1, "C", "G", "T");
            Check.illegalArgument("depth -1", () -> kit.depth(number, -1, 0));
            Check.illegalArgument("depth 10000", () -> kit.depth(number, 10000, 0));
            kit.depth(allele, 0, 0);
            kit.depth(allele, 9999, 0);
            kit.add();
            int at = 5 + 8 + 1 + 2 * allele;
            Check.due("depth 9999", kit.written(0, at) + 256 * kit.written(0, at + 1), 9999);
            Model.Entry entry = entry(1, "A", "C", "G", "T");
            entry.depths.set(allele, 9999);
            readable("depth 9999 of " + allele, entry);
            entry.depths.set(allele, 10000);
            unreadable("depth 10000 of " + allele, entry);
            entry.depths.set(allele, 65535);
            unreadable("depth 65535 of " + allele, entry);
        }
        VariantKit kit = Check.on(LONG);
        kit.draft(1, 1);
        for (int alleles = 1; alleles <= 4; alleles++) {
            int none = alleles;
            kit.depth(alleles - 1, 1, 0);
            Check.illegalArgument("depth of allele -1", () -> kit.depth(-1, 1, 0));
            Check.illegalArgument("depth of allele " + none, () -> kit.depth(none, 1, 0));
            if (alleles < 4) {
                kit.allele(alleles, 1);
            }
        }
    }

    private static void genotypeOfAlleles() {
        String[] all = {"A", "C", "G", "T"};
        for (int alleles = 1; alleles <= 4; alleles++) {
            VariantKit kit = Check.on(LONG);
            Check.draft(kit, 1, 1, Arrays.copyOfRange(all, 1, alleles));
            for (int sample = 0; sample < 2; sample++) {
                int one = sample;
                int last = alleles - 1;
                kit.genotype(one, -1, last, true);
                kit.genotype(one, last, -1, false);
                Check.illegalArgument("first -2", () -> kit.genotype(one, -2, 0, true));
                Check.illegalArgument("second -2", () -> kit.genotype(one, 0, -2, true));
                Check.illegalArgument("first too high", () -> kit.genotype(one, last + 1, 0, true));
                Check.illegalArgument("second too high", () -> kit.genotype(one, 0, last + 1, true));
                if (alleles > 1) {
                    readGenotypes(entry(1, Arrays.copyOf(all, alleles)), sample);
                }
            }
            Check.illegalArgument("sample -1", () -> kit.genotype(-1, 0, 0, true));
            Check.illegalArgument("sample 2", () -> kit.genotype(2, 0, 0, true));
            if (alleles > 1) {
                kit.add();
                Check.due("missing is 0, the last is 2 * alleles",
                        kit.written(0, 5 + 3 * alleles + 2) + " " + kit.written(0, 5 + 3 * alleles + 3),
                        2 * alleles + " 0");
            }
        }
    }

    private static void readGenotypes(Model.Entry entry, int sample) {
        int alleles = entry.alleles.size();
        for (int i = 0; i < 2; i++) {
            for (int allele = -1; allele <= alleles; allele++) {
                entry.genotypes[sample][i] = allele;
                entry.phased[sample] = i == 1;
                String what = "allele " + allele + " of " + alleles + " in a genotype";
                if (allele < alleles) {
                    readable(what, entry);
                } else {
                    unreadable(what, entry);
                }
            }
            entry.genotypes[sample][i] = 126;
            unreadable("allele 126 in a genotype", entry);
            entry.genotypes[sample][i] = 0;
        }
    }

    private static void likelihoodOf0To999() {
        for (int sample = 0; sample < 2; sample++) {
            int one = sample;
            for (int number = 0; number < 10; number++) {
                int pair = number;
                VariantKit kit = Check.on(LONG);
                Check.draft(kit, 1, 1, "C", "G", "T");
                Check.illegalArgument("likelihood -1", () -> kit.likelihood(one, pair, -1));
                Check.illegalArgument("likelihood 1000", () -> kit.likelihood(one, pair, 1000));
                kit.likelihood(one, pair, 0);
                kit.likelihood(one, pair, 999);
                kit.add();
                // Before the likelihoods stand 18 bytes, and for sample 1 the 14 of sample 0.
                int at = 18 + 14 * one + 4 + 2 * pair;
                Check.due("likelihood 999", kit.written(0, at) + 256 * kit.written(0, at + 1), 999);
                String bytes = Check.bytes(kit, 0);
                VariantKit other = Check.on(LONG);
                Check.type(other, bytes);
                other.read();
                Check.due("read, likelihood 999", Check.bytes(other, 0), bytes);
                Check.type(other, bytes.replace("231 3", "232 3"));
                Check.illegalArgument("read, likelihood 1000", other::read);
                Check.type(other, bytes.replace("231 3", "255 255"));
                Check.illegalArgument("read, likelihood 65535", other::read);
            }
        }
    }

    private static void pairsOfAlleles() {
        VariantKit kit = Check.on(LONG);
        kit.draft(1, 1);
        int[] pairs = {1, 3, 6, 10};
        for (int alleles = 1; alleles <= 4; alleles++) {
            int n = pairs[alleles - 1];
            for (int sample = 0; sample < 2; sample++) {
                int one = sample;
                kit.likelihood(one, 0, 0);
                kit.likelihood(one, n - 1, 100 + alleles);
                Check.illegalArgument("pair -1", () -> kit.likelihood(one, -1, 0));
                Check.illegalArgument("pair " + n, () -> kit.likelihood(one, n, 0));
            }
            Check.illegalArgument("sample -1", () -> kit.likelihood(-1, 0, 0));
            Check.illegalArgument("sample 2", () -> kit.likelihood(2, 0, 0));
            if (alleles < 4) {
                kit.allele(alleles, 1);
            }
        }
        kit.add();
        kit.split(0);
        // The pair of an alternative with itself is the last one that came with it.
        for (int a = 1; a <= 3; a++) {
            Check.due("pair of " + a + " and " + a, Check.bytes(kit, a - 1),
                    "1 0 0 0 2 23 65 23 " + "65 67 71 84".split(" ")[a] + " 33 0 0 33 0 0 49 0 0 "
                    + (101 + a) + " 33 0 0 49 0 0 " + (101 + a));
        }
    }

    private static void spansThePlacesOfTheRef() {
        int[][] spans = {{1, 1}, {1, 8}, {2, 7}, {7, 2}, {8, 8}, {31, 2}, {121, 8}, {153, 8}, {160, 1}};
        for (int[] span : spans) {
            int last = span[0] + span[1] - 1;
            for (String alternative : new String[] {"TTTTTTTT", "TT"}) {
                VariantKit kit = Check.on(LONG);
                Check.put(kit, span[0], span[1], alternative);
                Check.due("it spans", kit.about(0, 2), span[1]);
                Check.due("its first place", kit.found(span[0], span[0]), 1);
                Check.due("its last place", kit.found(last, last), 1);
                Check.due("behind it", kit.found(last + 1, 255), 0);
                Check.due("from its last place on", kit.found(last, 255), 1);
                Check.due("up to its first place", kit.found(1, span[0]), 1);
                if (span[0] > 1) {
                    Check.due("before it", kit.found(1, span[0] - 1), 0);
                }
            }
        }
    }

    private static void listOfAtMost24() {
        VariantKit kit = Check.on(LONG);
        for (int i = 0; i < 24; i++) {
            Check.due("the number of the next one", Check.put(kit, 1, 1, "C"), i);
        }
        Check.draft(kit, 1, 1, "C");
        Check.illegalState("add of a 25th", kit::add);
        Check.type(kit, bytes(entry(1, "A", "C")));
        Check.illegalState("read of a 25th", kit::read);
        Check.due("24", kit.records(), 24);
        kit.remove(23);
        Check.due("add of a 24th", kit.add(), 23);
        kit.remove(0);
        Check.type(kit, bytes(entry(1, "A", "C")));
        Check.due("read of a 24th", kit.read(), 23);
        for (int alternatives = 2; alternatives <= 3; alternatives++) {
            String[] all = Arrays.copyOf(new String[] {"C", "G", "T"}, alternatives);
            VariantKit nearly = Check.on(LONG);
            Check.put(nearly, 1, 1, all);
            while (nearly.records() < 26 - alternatives) {
                Check.put(nearly, 2, 1, "A");
            }
            Check.illegalState("split to 25", () -> nearly.split(0));
            nearly.remove(1);
            Check.due("split to 24", nearly.split(0), alternatives);
            Check.due("24 by split", nearly.records(), 24);
        }
    }

    private static void listInOrder() {
        VariantKit kit = Check.on(LONG);
        int[] places = {160, 1, 80, 1, 160, 80, 2, 159};
        int[] numbers = {0, 0, 1, 1, 4, 3, 2, 5};
        for (int i = 0; i < places.length; i++) {
            Check.draft(kit, places[i], 1, "AAA");
            kit.depth(0, 0, i);
            Check.due("the number of " + places[i], kit.add(), numbers[i]);
        }
        int[] order = {1, 3, 6, 2, 5, 7, 0, 4};
        for (int i = 0; i < order.length; i++) {
            Check.due("the order in which they came", kit.about(i, 3), order[i]);
        }
        Check.type(kit, bytes(entry(1, "A", "C")));
        Check.due("read, behind those of its place", kit.read(), 2);
        Check.due("normalised, behind those of its place", kit.normalise(0), 2);
        Check.due("the first one now", kit.about(0, 3), 3);
        Check.due("the read one now", Check.shape(kit, 1), "1 A C");
        Check.due("the normalised one now", kit.about(2, 3), 1);
    }

    private static String normalised(String reference, int place, int length, String... alternatives) {
        VariantKit kit = Check.on(reference);
        Check.put(kit, place, length, alternatives);
        kit.normalise(0);
        return Check.shape(kit, 0);
    }

    /** "all have two bases or more, or the place is above 1" */
    private static void normaliseAtTheFirstPlaces() {
        Check.due("at 1, a REF of one base", normalised("CCG", 1, 1, "CC"), "1 C CC");
        Check.due("at 1, an alternative of one base", normalised("CCG", 1, 2, "C"), "1 CC C");
        Check.due("at 1, all of two", normalised("ACG", 1, 2, "TC"), "1 A T");
        Check.due("at 1, two and three", normalised("CCG", 1, 2, "CCC"), "1 C CC");
        Check.due("at 2, a REF of one base", normalised("GCG", 2, 1, "CC"), "1 G GC");
        Check.due("at 2, an alternative of one base", normalised("GCCG", 2, 2, "C"), "1 GC G");
        Check.due("at 2, from there no more", normalised("CCG", 2, 1, "CC"), "1 C CC");
        Check.due("from 160 to 1", normalised("A".repeat(160), 160, 1, "AA"), "1 A AA");
        Check.due("from 153 to 1", normalised("A".repeat(160), 153, 8, "A"), "1 AAAAAAAA A");
        Check.due("from 160 to another base", normalised("GC" + "A".repeat(158), 160, 1, "AA"), "2 C CA");
    }

    /** "All alleles have the same first base and two bases or more" */
    private static void normaliseOfShortAlleles() {
        Check.due("one base each", normalised("ACG", 2, 1, "T"), "2 C T");
        Check.due("the first of two", normalised("ACG", 2, 2, "CT"), "3 G T");
        Check.due("the first of two and three", normalised("ACG", 2, 2, "CTT"), "3 G TT");
        Check.due("one of one base", normalised("ACG", 2, 2, "C"), "2 CG C");
        Check.due("the third of one base", normalised("ACG", 2, 2, "CT", "C"), "2 CG CT C");
        Check.due("another first base", normalised("ACG", 2, 2, "CT", "GT"), "2 CG CT GT");
        Check.due("another last base", normalised("ACG", 2, 2, "AG", "TC"), "2 CG AG TC");
        Check.due("seven of eight", normalised("ACGTTGCAC", 2, 8, "CGTTGCAT"), "9 C T");
        Check.due("seven of eight from behind", normalised("ACGTTGCAC", 2, 8, "TGTTGCAC"), "2 C T");
        Check.due("to place 160", normalised(LONG, 153, 8, "GCTAAGTA"), "160 C A");
    }

    private static void splitWhenAboveOne() {
        String[] all = {"C", "G", "T"};
        for (int n = 1; n <= 3; n++) {
            VariantKit kit = Check.on(LONG);
            Check.put(kit, 1, 1, Arrays.copyOf(all, n));
            if (n == 1) {
                Check.illegalState("split of two alleles", () -> kit.split(0));
            } else {
                Check.due("split into", kit.split(0), n);
            }
            Check.due("records", kit.records(), n);
            for (int a = 0; a < n; a++) {
                int part = a;
                Check.due("part", Check.shape(kit, part), "1 A " + all[part]);
                Check.illegalState("a part can't be split", () -> kit.split(part));
            }
        }
    }

    private static String joined(VariantKit kit) {
        try {
            kit.join(0);
            Check.due("one record", kit.records(), 1);
            return Check.shape(kit, 0);
        } catch (IllegalStateException e) {
            Check.due("two records", kit.records(), 2);
            return "not done";
        }
    }

    private static VariantKit two(int length, String[] first, int otherLength, String[] second) {
        VariantKit kit = Check.on(LONG);
        Check.put(kit, 1, length, first);
        Check.put(kit, 1, otherLength, second);
        return kit;
    }

    private static String[] of(String... all) {
        return all;
    }

    private static void joinOfTheLongerRef() {
        Check.due("as long", joined(two(2, of("T"), 2, of("TT"))), "1 AC T TT");
        Check.due("the first is one longer", joined(two(3, of("T"), 2, of("TT"))), "1 ACG T TTG");
        Check.due("the second is one longer", joined(two(2, of("T"), 3, of("TT"))), "1 ACG TG TT");
        Check.due("1 and 8", joined(two(1, of("T"), 8, of("G"))), "1 ACGTTGCA TCGTTGCA G");
        Check.due("8 and 1", joined(two(8, of("G"), 1, of("T"))), "1 ACGTTGCA G TCGTTGCA");
        Check.due("8 and 8", joined(two(8, of("G"), 8, of("G"))), "1 ACGTTGCA G");
        Check.due("the same when lengthened", joined(two(1, of("T"), 2, of("TC"))), "1 AC TC");
        Check.due("not the same when lengthened", joined(two(1, of("T"), 2, of("T"))), "1 AC TC T");
    }

    private static void joinOfFourAlleles() {
        Check.due("2 and 2, one of both", joined(two(1, of("C"), 1, of("C"))), "1 A C");
        Check.due("2 and 2", joined(two(1, of("C"), 1, of("G"))), "1 A C G");
        Check.due("3 and 2", joined(two(1, of("C", "G"), 1, of("T"))), "1 A C G T");
        Check.due("2 and 3", joined(two(1, of("C"), 1, of("G", "T"))), "1 A C G T");
        Check.due("3 and 3, one of both", joined(two(1, of("C", "G"), 1, of("T", "C"))), "1 A C G T");
        Check.due("3 and 3", joined(two(1, of("C", "G"), 1, of("T", "TT"))), "not done");
        Check.due("4 and 2, one of both", joined(two(1, of("C", "G", "T"), 1, of("T"))), "1 A C G T");
        Check.due("4 and 2", joined(two(1, of("C", "G", "T"), 1, of("TT"))), "not done");
        Check.due("2 and 4", joined(two(1, of("TT"), 1, of("C", "G", "T"))), "not done");
        Check.due("4 and 4, all of both",
                joined(two(1, of("C", "G", "T"), 1, of("T", "G", "C"))), "1 A C G T");
        Check.due("4 and 4, two of both",
                joined(two(1, of("C", "G", "T"), 1, of("T", "G", "CC"))), "not done");
        Check.due("4 and 4", joined(two(1, of("C", "G", "T"), 1, of("CC", "GG", "TT"))), "not done");
    }

    private static void joinOfEightBases() {
        Check.due("the first's 7 and 1", joined(two(1, of("TTTTTTT"), 2, of("G"))), "1 AC TTTTTTTC G");
        Check.due("the first's 8 and 1", joined(two(1, of("TTTTTTTT"), 2, of("G"))), "not done");
        Check.due("the second's 7 and 1", joined(two(2, of("G"), 1, of("TTTTTTT"))), "1 AC G TTTTTTTC");
        Check.due("the second's 8 and 1", joined(two(2, of("G"), 1, of("TTTTTTTT"))), "not done");
        Check.due("the first's 1 and 7", joined(two(1, of("T"), 8, of("G"))), "1 ACGTTGCA TCGTTGCA G");
        Check.due("the first's 2 and 7", joined(two(1, of("TT"), 8, of("G"))), "not done");
        Check.due("the second's 2 and 7", joined(two(8, of("G"), 1, of("TT"))), "not done");
        Check.due("the last one's 8 and 1",
                joined(two(1, of("T", "G", "TTTTTTTT"), 2, of("TC"))), "not done");
        Check.due("8 and 7", joined(two(1, of("TTTTTTTT"), 8, of("G"))), "not done");
        Check.due("nothing is added to 8", joined(two(2, of("TTTTTTTT"), 2, of("G"))), "1 AC TTTTTTTT G");
        Check.due("nothing is added to the longer one's 8",
                joined(two(2, of("TTTTTTTT"), 1, of("G"))), "1 AC TTTTTTTT GC");
    }

    private static int[] joinedNumbers(int[] first, int[] second, String alternative) {
        VariantKit kit = Check.on(LONG);
        for (int[] one : new int[][] {first, second}) {
            Check.draft(kit, 1, 1, one == first ? "C" : alternative);
            kit.depth(0, one[0], one[2]);
            kit.depth(1, one[1], one[2]);
            kit.add();
        }
        kit.join(0);
        int at = 5 + 2 * kit.about(0, 1);
        int width = kit.written(0, at) % 16;
        int[] numbers = new int[1 + kit.about(0, 1)];
        numbers[0] = kit.about(0, 3);
        for (int i = 1; i < numbers.length; i++) {
            int low = at + 1 + width * (i - 1);
            numbers[i] = kit.written(0, low) + (width == 2 ? 256 * kit.written(0, low + 1) : 0);
        }
        return numbers;
    }

    /** Records are given here by the depths of the REF and of C, and the quality; joined, that is first. */
    private static void joinedNumbers() {
        int[][][] ofBoth = {
            {{0, 0, 0}, {0, 0, 0}, {0, 0, 0}}, {{9999, 1, 8000}, {9998, 1, 7999}, {8000, 9999, 2}},
            {{9998, 1, 7999}, {9999, 1, 8000}, {8000, 9999, 2}}, {{5, 9998, 3}, {5, 1, 3}, {3, 5, 9999}},
            {{5, 9999, 3}, {5, 1, 3}, {3, 5, 9999}}, {{5, 9999, 3}, {5, 0, 3}, {3, 5, 9999}},
            {{5, 0, 3}, {5, 9999, 3}, {3, 5, 9999}}, {{5, 5000, 3}, {6, 5000, 2}, {3, 6, 9999}},
            {{0, 9999, 0}, {0, 9999, 0}, {0, 0, 9999}}, {{9999, 9997, 0}, {9999, 1, 0}, {0, 9999, 9998}}};
        for (int[][] one : ofBoth) {
            Check.due("an alternative of both", text(joinedNumbers(one[0], one[1], "C")), text(one[2]));
        }
        Check.due("alternatives of one", text(joinedNumbers(new int[] {1, 9999, 7},
                new int[] {2, 9998, 6}, "G")), text(new int[] {7, 2, 9999, 9998}));
        Check.due("alternatives of one, 0", text(joinedNumbers(new int[] {2, 0, 6},
                new int[] {1, 9, 7}, "G")), text(new int[] {7, 2, 0, 9}));
    }

    private static String text(int[] numbers) {
        return Arrays.toString(numbers);
    }

    /** Each pair of alleles at each place of each sample's genotype; the second one's C is joined as 1. */
    private static void joinedGenotypes() {
        int[] renumbered = {0, 2, 1};
        for (int first = -1; first <= 1; first++) {
            for (int second = -1; second <= 2; second++) {
                int want = first == -1 && second == -1 ? -1 : first > 0 ? first
                        : second == -1 ? 0 : renumbered[second];
                for (int at = 0; at < 4; at++) {
                    int[] got = joinedGenotype(first, second, at);
                    Check.due("place " + at + " of " + first + " and " + second, got[at], want);
                    for (int i = 0; i < 4; i++) {
                        Check.due("the other places", i == at ? -1 : got[i], -1);
                    }
                }
            }
        }
    }

    private static int[] joinedGenotype(int first, int second, int at) {
        VariantKit kit = Check.on(LONG);
        Check.draft(kit, 1, 1, "C");
        kit.genotype(at / 2, at % 2 == 0 ? first : -1, at % 2 == 1 ? first : -1, false);
        kit.add();
        Check.draft(kit, 1, 1, "G", "C");
        kit.genotype(at / 2, at % 2 == 0 ? second : -1, at % 2 == 1 ? second : -1, false);
        kit.add();
        kit.join(0);
        // Before the samples stand 5 bytes, three alleles of 2 and 1 + 3 of depths; a sample has 33, two
        // of its genotype and 1 + 6 of likelihoods.
        int[] from = {16, 17, 16 + 10, 17 + 10};
        int[] got = new int[4];
        for (int i = 0; i < 4; i++) {
            got[i] = kit.written(0, from[i]) / 2 - 1;
        }
        return got;
    }

    private static void joinedLikelihoods() {
        int[][] cases = {{0, 0, 0}, {0, 999, 0}, {999, 0, 0}, {998, 999, 998}, {999, 998, 998},
            {999, 999, 999}, {127, 128, 127}};
        for (int[] one : cases) {
            for (int sample = 0; sample < 2; sample++) {
                for (int number = 0; number < 3; number++) {
                    VariantKit kit = Check.on(LONG);
                    Check.draft(kit, 1, 1, "C");
                    kit.likelihood(sample, number, one[0]);
                    kit.add();
                    Check.draft(kit, 1, 1, "C");
                    kit.likelihood(sample, number, one[1]);
                    kit.add();
                    Check.draft(kit, 1, 1, "C");
                    kit.likelihood(sample, number, one[2]);
                    kit.add();
                    kit.join(0);
                    Check.due("the lesser likelihood", Check.bytes(kit, 0), Check.bytes(kit, 1));
                }
            }
        }
    }

    /** "w is 1 when all of that row are not above 127, otherwise 2", for each number of each row. */
    private static void writtenWidths() {
        for (int value : new int[] {0, 127, 128, 255, 256, 999}) {
            int w = value > 127 ? 2 : 1;
            for (int at = 0; at < 4; at++) {
                VariantKit kit = Check.on(LONG);
                Check.draft(kit, 1, 1, "C", "G", "T");
                kit.depth(at, value, 0);
                kit.add();
                Check.due("w of depths", kit.written(0, 13), 64 + w);
                Check.due("w of likelihoods", kit.written(0, 13 + 1 + 4 * w + 3), 161);
                Check.due("so many bytes", kit.written(0, -1), 14 + 4 * w + 2 * 14);
                Check.due("the depth", kit.written(0, 14 + at * w), value % 256);
            }
            for (int at = 0; at < 20; at++) {
                VariantKit kit = Check.on(LONG);
                Check.draft(kit, 1, 1, "C", "G", "T");
                kit.likelihood(at / 10, at % 10, value);
                kit.add();
                int first = at < 10 ? w : 1;
                Check.due("w of sample 0", kit.written(0, 21), 160 + first);
                Check.due("w of sample 1", kit.written(0, 21 + 1 + 10 * first + 3), 160 + (at < 10 ? 1 : w));
                Check.due("w of depths", kit.written(0, 13), 65);
                Check.due("so many bytes", kit.written(0, -1), 18 + 2 * 4 + 10 + 10 * w);
            }
        }
    }

    /** "of numbers above 255 the lowest first" */
    private static void writtenNumbers() {
        int[][] qualities = {{0, 0, 0}, {255, 255, 0}, {256, 0, 1}, {257, 1, 1}, {8000, 64, 31}};
        for (int[] one : qualities) {
            VariantKit kit = Check.on(LONG);
            Check.draft(kit, 160, 1, "AA");
            kit.depth(1, one[0], one[0]);
            kit.likelihood(1, 2, one[0] % 1000);
            kit.add();
            Check.due("the place", kit.written(0, 0) + " " + kit.written(0, 1), "160 0");
            Check.due("the quality", kit.written(0, 2) + " " + kit.written(0, 3), one[1] + " " + one[2]);
            if (one[0] > 127) {
                Check.due("the depth", kit.written(0, 13) + " " + kit.written(0, 14),
                        one[1] + " " + one[2]);
            }
        }
    }

    /** The last place of a bin and the first one of the next, for each of the sizes. */
    private static void bins() {
        int[][] cases = {{1, 7, 11}, {8, 8, 12}, {152, 8, 30}, {160, 1, 31}, {7, 2, 3}, {24, 8, 14},
            {25, 8, 1}, {31, 1, 14}, {32, 1, 15}, {31, 2, 1}, {39, 2, 4}, {120, 8, 26}, {121, 8, 0},
            {127, 1, 26}, {128, 1, 27}, {127, 2, 0}, {135, 2, 7}, {159, 1, 30}, {159, 2, 2}, {95, 2, 1},
            {63, 2, 1}, {153, 8, 2}, {153, 7, 30}};
        for (int[] one : cases) {
            VariantKit kit = Check.on(LONG);
            Check.put(kit, one[0], one[1], "TTTTTTTT");
            Check.due("the bin of " + one[0] + ", " + one[1], kit.about(0, 4), one[2]);
        }
    }
}
