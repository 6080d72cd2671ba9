/** Promises 1 to 8: a new object, the reference, and a draft until it is added. */
public final class DraftTest {
    private static final String EMPTY_DRAFT_TAIL = " 33 0 0 49 0 0 0 33 0 0 49 0 0 0";

    private DraftTest() {
    }

    public static void main(String[] args) {
        newObject();
        reference();
        referenceRefused();
        draft();
        draftRefused();
        draftReplaces();
        allele();
        alleleRefused();
        depth();
        depthRefused();
        genotype();
        genotypeRefused();
        likelihood();
        likelihoodRefused();
        add();
        addRefused();
        Check.end();
    }

    private static void newObject() {
        VariantKit kit = new VariantKit();
        Check.due("1: records()", kit.records(), 0);
        Check.illegalState("1: no draft", kit::add);
        Check.illegalArgument("1: no bytes", kit::read);
        Check.illegalArgument("1: no reference", () -> kit.draft(1, 1));
        Check.due("1: found", kit.found(1, 255), 0);
        Check.due("1: reference counts from 0", kit.reference(0, 1), 1);
        VariantKit other = new VariantKit();
        Check.due("1: objects are apart", other.reference(0, 2), 2);
    }

    private static void reference() {
        VariantKit kit = new VariantKit();
        Check.due("2: reference", kit.reference(Check.packed("ACGT"), 4), 4);
        Check.due("2: higher bits do not count", kit.reference(-1L << 4 | 0b0110, 2), 6);
        Check.due("2: one", kit.reference(3, 1), 7);
        Check.due("2: sixteen", kit.reference(Check.packed("CCCCAAAAGGGGTTTA"), 16), 23);
        String[] pieces = {"ACGTCGTC", "CCCAAAAG", "GGGTTTA"};
        for (int i = 0; i < pieces.length; i++) {
            Check.put(kit, 8 * i + 1, pieces[i].length(), "A");
            Check.due("2: bases", Check.allele(kit, i, 0), pieces[i]);
        }
    }

    private static void referenceRefused() {
        VariantKit kit = new VariantKit();
        Check.illegalArgument("2: n 0", () -> kit.reference(0, 0));
        Check.illegalArgument("2: n 17", () -> kit.reference(0, 17));
        Check.illegalArgument("2: n negative", () -> kit.reference(0, Integer.MIN_VALUE));
        Check.illegalArgument("2: n large", () -> kit.reference(0, Integer.MAX_VALUE));
        for (int i = 1; i <= 9; i++) {
            Check.due("2: so many", kit.reference(0, 16), 16 * i);
        }
        kit.reference(0, 15);
        Check.illegalState("2: 161", () -> kit.reference(0, 2));
        Check.due("2: 160", kit.reference(3, 1), 160);
        Check.illegalState("2: full", () -> kit.reference(0, 1));
        Check.illegalArgument("2: n is looked at first", () -> kit.reference(0, 17));
        VariantKit busy = Check.on("ACGT");
        busy.draft(1, 1);
        Check.illegalState("2: a draft", () -> busy.reference(0, 1));
        busy.allele(1, 1);
        busy.add();
        Check.illegalState("2: a record", () -> busy.reference(0, 1));
        busy.remove(0);
        Check.due("2: neither", busy.reference(0, 1), 5);
    }

    private static void draft() {
        VariantKit kit = Check.on("ACGTACGTACGTACGT");
        Check.put(kit, 9, 8, "C");
        Check.due("3: at the end", Check.bytes(kit, 0),
                "9 0 0 0 2 135 65 67 71 84 65 67 71 84 23 67 33 0 0" + EMPTY_DRAFT_TAIL);
        Check.put(kit, 1, 1, "T");
        Check.due("3: at the begin", Check.bytes(kit, 0),
                "1 0 0 0 2 23 65 23 84 33 0 0" + EMPTY_DRAFT_TAIL);
        Check.put(kit, 16, 1, "A");
        Check.due("3: the last place", Check.shape(kit, 2), "16 T A");
    }

    private static void draftRefused() {
        VariantKit kit = Check.on("ACGTACGTACGTACGT");
        Check.illegalArgument("3: length 0", () -> kit.draft(1, 0));
        Check.illegalArgument("3: length 9", () -> kit.draft(1, 9));
        Check.illegalArgument("3: length negative", () -> kit.draft(1, Integer.MIN_VALUE));
        Check.illegalArgument("3: place 0", () -> kit.draft(0, 1));
        Check.illegalArgument("3: place negative", () -> kit.draft(Integer.MIN_VALUE, 8));
        Check.illegalArgument("3: place 17", () -> kit.draft(17, 1));
        Check.illegalArgument("3: place large", () -> kit.draft(Integer.MAX_VALUE, 8));
        Check.illegalArgument("3: behind the end", () -> kit.draft(10, 8));
        Check.illegalState("3: still no draft", kit::add);
        Check.draft(kit, 2, 1, "A");
        Check.illegalArgument("3: refused", () -> kit.draft(16, 2));
        Check.due("3: the old draft stays", kit.add(), 0);
        Check.due("3: as it was", Check.shape(kit, 0), "2 C A");
    }

    private static void draftReplaces() {
        VariantKit kit = Check.on("ACGTACGTACGTACGT");
        Check.draft(kit, 1, 2, "A", "C", "G");
        kit.depth(1, 200, 900);
        kit.genotype(0, 1, 2, true);
        kit.genotype(1, 3, 3, true);
        for (int number = 0; number < 10; number++) {
            kit.likelihood(0, number, 500);
            kit.likelihood(1, number, 600);
        }
        Check.put(kit, 5, 1, "C");
        Check.due("3: all is anew", Check.bytes(kit, 0),
                "5 0 0 0 2 23 65 23 67 33 0 0" + EMPTY_DRAFT_TAIL);
        Check.due("3: in place of the old one", kit.records(), 1);
        Check.draft(kit, 1, 1, "C");
        kit.depth(1, 9, 9);
        kit.genotype(0, 0, 1, true);
        kit.add();
        Check.put(kit, 2, 1, "G");
        Check.due("3: also after add", Check.bytes(kit, 1),
                "2 0 0 0 2 23 67 23 71 33 0 0" + EMPTY_DRAFT_TAIL);
    }

    private static void allele() {
        VariantKit kit = Check.on("ACGTACGTACGTACGT");
        kit.draft(1, 2);
        Check.due("4: first", kit.allele(Check.packed("A"), 1), 1);
        Check.due("4: eight bases", kit.allele(Check.packed("TGCATGCA"), 8), 2);
        Check.due("4: higher bits do not count", kit.allele(-1L << 6 | 0b110001, 3), 3);
        kit.add();
        Check.due("4: alleles", Check.shape(kit, 0), "1 AC A TGCATGCA TAC");
        kit.draft(1, 2);
        Check.due("4: as long as the REF", kit.allele(0, 2), 1);
        Check.due("4: the same bits, more bases", kit.allele(0, 3), 2);
        Check.due("4: the same bits, fewer bases", kit.allele(0, 1), 3);
    }

    private static void alleleRefused() {
        VariantKit kit = Check.on("ACGTACGTACGTACGT");
        Check.illegalState("4: no draft", () -> kit.allele(0, 1));
        Check.illegalArgument("4: n is looked at first", () -> kit.allele(0, 0));
        kit.draft(2, 3);
        Check.illegalArgument("4: n 0", () -> kit.allele(0, 0));
        Check.illegalArgument("4: n 9", () -> kit.allele(0, 9));
        Check.illegalArgument("4: n negative", () -> kit.allele(0, -8));
        Check.illegalState("4: the REF", () -> kit.allele(Check.packed("CGT"), 3));
        Check.illegalState("4: the REF behind higher bits",
                () -> kit.allele(-64L | Check.packed("CGT"), 3));
        kit.allele(0, 1);
        Check.illegalState("4: allele 1", () -> kit.allele(0, 1));
        kit.allele(1, 1);
        kit.allele(2, 1);
        Check.illegalState("4: four", () -> kit.allele(3, 1));
        Check.illegalArgument("4: n before four", () -> kit.allele(3, 9));
        kit.add();
        Check.due("4: what is refused is not there", Check.shape(kit, 0), "2 CGT A C G");
        Check.illegalState("4: no draft any more", () -> kit.allele(3, 1));
    }

    private static void depth() {
        VariantKit kit = Check.on("ACGT");
        Check.draft(kit, 1, 1, "C", "G");
        kit.depth(0, 9999, 8000);
        kit.depth(1, 0, 7);
        kit.depth(2, 127, 1025);
        kit.add();
        Check.due("5: the last quality", kit.about(0, 3), 1025);
        Check.due("5: quality and depths", Check.bytes(kit, 0).substring(0, 47),
                "1 0 1 4 3 23 65 23 67 23 71 50 15 39 0 0 127 0 ");
        Check.draft(kit, 1, 1, "C");
        kit.depth(1, 5, 8000);
        kit.depth(1, 6, 0);
        kit.depth(1, 6, 8000);
        kit.add();
        Check.due("5: quality 8000", kit.about(1, 3), 8000);
        Check.due("5: the depth again", kit.written(1, 11), 6);
    }

    private static void depthRefused() {
        VariantKit kit = Check.on("ACGT");
        Check.illegalArgument("5: no draft", () -> kit.depth(0, 0, 0));
        Check.draft(kit, 1, 1, "C");
        kit.depth(0, 11, 22);
        kit.depth(1, 33, 22);
        Check.illegalArgument("5: allele -1", () -> kit.depth(-1, 0, 0));
        Check.illegalArgument("5: allele 2", () -> kit.depth(2, 0, 0));
        Check.illegalArgument("5: allele 4", () -> kit.depth(4, 0, 0));
        Check.illegalArgument("5: depth -1", () -> kit.depth(0, -1, 0));
        Check.illegalArgument("5: depth 10000", () -> kit.depth(0, 10000, 0));
        Check.illegalArgument("5: quality -1", () -> kit.depth(0, 0, -1));
        Check.illegalArgument("5: quality 8001", () -> kit.depth(0, 0, 8001));
        kit.add();
        Check.due("5: refused calls change nothing", Check.bytes(kit, 0),
                "1 0 22 0 2 23 65 23 67 33 11 33" + EMPTY_DRAFT_TAIL);
        Check.illegalArgument("5: the draft is gone", () -> kit.depth(0, 0, 0));
    }

    private static void genotype() {
        VariantKit kit = Check.on("ACGT");
        Check.draft(kit, 1, 1, "C", "G", "T");
        kit.genotype(0, 1, 2, false);
        kit.genotype(0, 3, -1, true);
        kit.genotype(1, 0, 2, false);
        kit.add();
        Check.due("6: sample 0", kit.written(0, 18) + " " + kit.written(0, 19) + " "
                + kit.written(0, 20), "33 9 1");
        Check.due("6: sample 1", kit.written(0, 32) + " " + kit.written(0, 33) + " "
                + kit.written(0, 34), "33 2 6");
        Check.draft(kit, 1, 1, "C");
        kit.genotype(1, 1, 1, true);
        kit.genotype(1, -1, 0, false);
        kit.add();
        Check.due("6: set again", Check.bytes(kit, 1),
                "1 0 0 0 2 23 65 23 67 33 0 0 33 0 0 49 0 0 0 33 0 2 49 0 0 0");
    }

    private static void genotypeRefused() {
        VariantKit kit = Check.on("ACGT");
        Check.illegalArgument("6: no draft", () -> kit.genotype(0, -1, -1, false));
        Check.draft(kit, 1, 1, "C");
        kit.genotype(0, 0, 1, true);
        Check.illegalArgument("6: sample -1", () -> kit.genotype(-1, 0, 0, false));
        Check.illegalArgument("6: sample 2", () -> kit.genotype(2, 0, 0, false));
        Check.illegalArgument("6: first -2", () -> kit.genotype(0, -2, 0, false));
        Check.illegalArgument("6: first 2", () -> kit.genotype(0, 2, 0, false));
        Check.illegalArgument("6: second -2", () -> kit.genotype(0, 0, -2, false));
        Check.illegalArgument("6: second 2", () -> kit.genotype(0, 0, 2, false));
        kit.add();
        Check.due("6: refused calls change nothing", Check.bytes(kit, 0),
                "1 0 0 0 2 23 65 23 67 33 0 0 33 3 5 49 0 0 0 33 0 0 49 0 0 0");
        Check.illegalArgument("6: the draft is gone", () -> kit.genotype(0, 0, 0, false));
    }

    private static void likelihood() {
        VariantKit kit = Check.on("ACGT");
        kit.draft(1, 1);
        kit.likelihood(0, 0, 1);
        kit.allele(1, 1);
        kit.likelihood(0, 1, 2);
        kit.likelihood(0, 2, 128);
        kit.likelihood(1, 0, 999);
        kit.likelihood(1, 0, 127);
        kit.likelihood(1, 2, 5);
        kit.add();
        Check.due("7: likelihoods", Check.bytes(kit, 0),
                "1 0 0 0 2 23 65 23 67 33 0 0 33 0 0 50 1 0 2 0 128 0 33 0 0 49 127 0 5");
    }

    private static void likelihoodRefused() {
        VariantKit kit = Check.on("ACGT");
        Check.illegalArgument("7: no draft", () -> kit.likelihood(0, 0, 0));
        kit.draft(1, 1);
        Check.illegalArgument("7: one allele, number 1", () -> kit.likelihood(0, 1, 0));
        kit.allele(1, 1);
        Check.illegalArgument("7: sample -1", () -> kit.likelihood(-1, 0, 9));
        Check.illegalArgument("7: sample 2", () -> kit.likelihood(2, 0, 9));
        Check.illegalArgument("7: number -1", () -> kit.likelihood(1, -1, 9));
        Check.illegalArgument("7: two alleles, number 3", () -> kit.likelihood(0, 3, 9));
        Check.illegalArgument("7: value -1", () -> kit.likelihood(0, 0, -1));
        Check.illegalArgument("7: value 1000", () -> kit.likelihood(0, 0, 1000));
        kit.allele(2, 1);
        kit.likelihood(0, 5, 0);
        Check.illegalArgument("7: three alleles, number 6", () -> kit.likelihood(0, 6, 9));
        kit.allele(3, 1);
        kit.likelihood(0, 9, 0);
        Check.illegalArgument("7: four alleles, number 10", () -> kit.likelihood(0, 10, 9));
        kit.add();
        Check.due("7: refused calls change nothing", Check.bytes(kit, 0),
                "1 0 0 0 4 23 65 23 67 23 71 23 84 65 0 0 0 0 33 0 0 161 0 0 0 0 0 0 0 0 0 0"
                        + " 33 0 0 161 0 0 0 0 0 0 0 0 0 0");
        Check.illegalArgument("7: the draft is gone", () -> kit.likelihood(0, 0, 0));
    }

    private static void add() {
        VariantKit kit = Check.on("AAAAAAAA");
        Check.due("8: the first", Check.put(kit, 4, 1, "C"), 0);
        Check.due("8: behind", Check.put(kit, 6, 1, "C"), 1);
        Check.due("8: before", Check.put(kit, 2, 1, "C"), 0);
        Check.due("8: behind those of its place", Check.put(kit, 4, 1, "G"), 2);
        Check.due("8: again", Check.put(kit, 4, 2, "T"), 3);
        Check.due("8: the last", Check.put(kit, 8, 1, "G"), 5);
        String[] want = {"2 A C", "4 A C", "4 A G", "4 AA T", "6 A C", "8 A G"};
        for (int i = 0; i < want.length; i++) {
            Check.due("8: order", Check.shape(kit, i), want[i]);
        }
        Check.illegalState("8: the draft is there no more", kit::add);
    }

    private static void addRefused() {
        VariantKit kit = Check.on("ACGT");
        Check.illegalState("8: no draft", kit::add);
        kit.draft(1, 1);
        Check.illegalState("8: one allele", kit::add);
        kit.allele(1, 1);
        Check.due("8: the draft was kept", kit.add(), 0);
        Check.fill(kit, 2, "A");
        Check.due("8: 24", kit.records(), 24);
        Check.draft(kit, 3, 1, "T");
        Check.illegalState("8: 24 records", kit::add);
        Check.due("8: still 24", kit.records(), 24);
        kit.remove(0);
        Check.due("8: the draft was kept", kit.add(), 23);
        Check.due("8: as it was", Check.shape(kit, 23), "3 G T");
    }
}
