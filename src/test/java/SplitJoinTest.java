/** Promises 11 and 12: splitting and joining. */
public final class SplitJoinTest {
    private static final String REFERENCE = "ACGTACGTACGTACGT";
    private static final String EMPTY_TAIL = " 33 0 0 49 0 0 0 33 0 0 49 0 0 0";

    private SplitJoinTest() {
    }

    public static void main(String[] args) {
        split();
        splitOfThree();
        splitInTheList();
        splitRefused();
        splitWhenNearlyFull();
        joinOfTheSameAlternative();
        joinOfOthers();
        joinRenumbers();
        joinLengthens();
        joinOfNormalised();
        joinGenotypes();
        joinInTheList();
        joinRefused();
        joinNotDone();
        splitAndJoinAgain();
        Check.end();
    }

    /** A record at place 5 with four alleles, in which all numbers differ. */
    private static void putRich(VariantKit kit) {
        Check.draft(kit, 5, 2, "A", "ACC", "TT");
        for (int a = 0; a < 4; a++) {
            kit.depth(a, 10 + a, 300);
        }
        kit.genotype(0, 1, 2, true);
        kit.genotype(1, -1, 3, false);
        for (int number = 0; number < 10; number++) {
            kit.likelihood(0, number, 20 + number);
            kit.likelihood(1, number, 40 + number);
        }
        kit.add();
    }

    private static void split() {
        VariantKit kit = Check.on(REFERENCE);
        putRich(kit);
        Check.due("11: parts", kit.split(0), 3);
        Check.due("11: records", kit.records(), 3);
        Check.due("11: alternative 1", Check.bytes(kit, 0), "5 0 44 1 2 39 65 67 23 65 33 10 11"
                + " 33 5 3 49 20 21 22 33 0 2 49 40 41 42");
        Check.due("11: alternative 2", Check.bytes(kit, 1), "5 0 44 1 2 39 65 67 55 65 67 67 33 10 12"
                + " 33 3 5 49 20 23 25 33 0 2 49 40 43 45");
        Check.due("11: alternative 3", Check.bytes(kit, 2), "5 0 44 1 2 39 65 67 39 84 84 33 10 13"
                + " 33 3 3 49 20 26 29 33 0 4 49 40 46 49");
    }

    private static void splitOfThree() {
        VariantKit kit = Check.on(REFERENCE);
        Check.draft(kit, 1, 1, "C", "AC");
        kit.genotype(0, -1, -1, true);
        kit.genotype(1, 2, 2, true);
        kit.likelihood(0, 3, 200);
        kit.add();
        Check.due("11: two parts", kit.split(0), 2);
        Check.due("11: missing stays missing", Check.bytes(kit, 0),
                "1 0 0 0 2 23 65 23 67 33 0 0 33 1 1 49 0 0 0 33 3 3 49 0 0 0");
        Check.due("11: both are the alternative", Check.bytes(kit, 1),
                "1 0 0 0 2 23 65 39 65 67 33 0 0 33 1 1 50 0 0 200 0 0 0 33 5 5 49 0 0 0");
    }

    private static void splitInTheList() {
        VariantKit kit = Check.on(REFERENCE);
        Check.put(kit, 1, 1, "C");
        Check.put(kit, 5, 1, "C");
        putRich(kit);
        Check.put(kit, 5, 1, "G");
        Check.put(kit, 9, 1, "G");
        Check.due("11: parts", kit.split(2), 3);
        String[] want = {"1 A C", "5 A C", "5 AC A", "5 AC ACC", "5 AC TT", "5 A G", "9 A G"};
        Check.due("11: records", kit.records(), want.length);
        for (int i = 0; i < want.length; i++) {
            Check.due("11: in place of the record", Check.shape(kit, i), want[i]);
        }
    }

    private static void splitRefused() {
        VariantKit kit = Check.on(REFERENCE);
        Check.illegalArgument("11: none", () -> kit.split(0));
        Check.put(kit, 1, 1, "C");
        Check.illegalArgument("11: -1", () -> kit.split(-1));
        Check.illegalArgument("11: 1", () -> kit.split(1));
        Check.illegalState("11: two alleles", () -> kit.split(0));
        Check.due("11: unchanged", Check.shape(kit, 0), "1 A C");
    }

    private static void splitWhenNearlyFull() {
        VariantKit kit = Check.on(REFERENCE);
        putRich(kit);
        Check.put(kit, 4, 1, "A", "C");
        Check.fill(kit, 1, "C");
        Check.illegalState("11: 24 and three alleles", () -> kit.split(22));
        Check.illegalState("11: 24 and four alleles", () -> kit.split(23));
        Check.due("11: unchanged", kit.records(), 24);
        Check.due("11: unchanged", Check.shape(kit, 22), "4 T A C");
        Check.due("11: unchanged", Check.shape(kit, 23), "5 AC A ACC TT");
        kit.remove(0);
        Check.illegalState("11: 23 and four alleles", () -> kit.split(22));
        Check.due("11: 23 and three alleles", kit.split(21), 2);
        Check.due("11: 24", kit.records(), 24);
        kit.remove(0);
        kit.remove(0);
        Check.due("11: 22 and four alleles", kit.split(21), 3);
        Check.due("11: 24 again", kit.records(), 24);
        Check.due("11: the last", Check.shape(kit, 23), "5 AC TT");
    }

    private static void joinOfTheSameAlternative() {
        VariantKit kit = Check.on(REFERENCE);
        Check.draft(kit, 3, 1, "A");
        kit.depth(0, 50, 9);
        kit.depth(1, 60, 9);
        kit.likelihood(0, 0, 7);
        kit.likelihood(0, 1, 9);
        kit.likelihood(1, 2, 999);
        kit.add();
        Check.draft(kit, 3, 1, "A");
        kit.depth(0, 40, 8);
        kit.depth(1, 61, 8);
        kit.likelihood(0, 0, 8);
        kit.likelihood(0, 1, 8);
        kit.likelihood(1, 2, 998);
        kit.add();
        kit.join(0);
        Check.due("12: one record", kit.records(), 1);
        Check.due("12: joined", Check.bytes(kit, 0), "3 0 9 0 2 23 71 23 65 33 50 121"
                + " 33 0 0 49 7 8 0 33 0 0 50 0 0 0 0 230 3");
        Check.draft(kit, 3, 1, "A");
        kit.depth(0, 51, 10);
        kit.depth(1, 9878, 10);
        kit.add();
        kit.join(0);
        Check.due("12: 9999", Check.bytes(kit, 0).substring(0, 37), "3 0 10 0 2 23 71 23 65 34 51 0 15 39 ");
        Check.draft(kit, 3, 1, "A");
        kit.depth(1, 9999, 0);
        kit.add();
        kit.join(0);
        Check.due("12: 9999 at most", kit.written(0, 12) + 256 * kit.written(0, 13), 9999);
        Check.due("12: the greater quality of the first", kit.about(0, 3), 10);
    }

    private static void joinOfOthers() {
        VariantKit kit = Check.on(REFERENCE);
        Check.draft(kit, 3, 1, "A");
        kit.depth(0, 1, 0);
        kit.depth(1, 2, 0);
        kit.likelihood(0, 0, 30);
        kit.likelihood(0, 1, 31);
        kit.likelihood(0, 2, 32);
        kit.add();
        Check.draft(kit, 3, 1, "GA", "T");
        kit.depth(0, 0, 5);
        kit.depth(1, 3, 5);
        kit.depth(2, 4, 5);
        for (int number = 0; number < 6; number++) {
            kit.likelihood(0, number, 20 + number);
        }
        kit.add();
        kit.join(0);
        Check.due("12: four alleles", Check.bytes(kit, 0),
                "3 0 5 0 4 23 71 23 65 39 71 65 23 84 65 1 2 3 4"
                + " 33 0 0 162 20 0 31 0 32 0 21 0 231 3 22 0 23 0 231 3 24 0 25 0"
                + " 33 0 0 162 0 0 0 0 0 0 0 0 231 3 0 0 0 0 231 3 0 0 0 0");
    }

    /** The second one's alternatives stand in another order among the first one's. */
    private static void joinRenumbers() {
        VariantKit kit = Check.on(REFERENCE);
        Check.draft(kit, 3, 1, "A", "C");
        for (int number = 0; number < 6; number++) {
            kit.likelihood(0, number, 50);
        }
        kit.depth(1, 1, 0);
        kit.depth(2, 2, 0);
        kit.add();
        Check.draft(kit, 3, 1, "T", "C", "A");
        for (int number = 0; number < 10; number++) {
            kit.likelihood(0, number, 10 + number);
        }
        kit.likelihood(0, 9, 60);
        for (int a = 0; a < 4; a++) {
            kit.depth(a, 10 * a, 0);
        }
        kit.genotype(0, 1, 2, false);
        kit.genotype(1, 3, 0, false);
        kit.add();
        kit.join(0);
        Check.due("12: renumbered", Check.bytes(kit, 0),
                "3 0 0 0 4 23 71 23 65 23 67 23 84 65 0 31 22 10"
                + " 33 8 6 161 10 16 50 13 18 15 11 17 14 12"
                + " 33 4 2 161 0 0 0 0 0 0 0 0 0 0");
    }

    private static void joinLengthens() {
        VariantKit kit = Check.on(REFERENCE);
        Check.put(kit, 5, 2, "A", "TTTT");
        Check.put(kit, 5, 4, "AGT", "CC");
        kit.join(0);
        Check.due("12: the second REF is longer", Check.shape(kit, 0), "5 ACGT AGT TTTTGT CC");
        VariantKit other = Check.on(REFERENCE);
        Check.put(other, 5, 4, "AGT", "CC");
        Check.put(other, 5, 2, "TTTT", "A");
        other.join(0);
        Check.due("12: the first REF is longer", Check.shape(other, 0), "5 ACGT AGT CC TTTTGT");
        VariantKit four = Check.on(REFERENCE);
        Check.put(four, 5, 1, "C", "G", "T");
        Check.put(four, 5, 2, "TC", "CC");
        four.join(0);
        Check.due("12: four alleles lengthened", Check.shape(four, 0), "5 AC CC GC TC");
        VariantKit eight = Check.on(REFERENCE);
        Check.put(eight, 5, 1, "C");
        Check.put(eight, 5, 8, "T");
        eight.join(0);
        Check.due("12: eight bases", Check.shape(eight, 0), "5 ACGTACGT CCGTACGT T");
    }

    /** An allele is the same one however it came to its bases. */
    private static void joinOfNormalised() {
        VariantKit kit = Check.on(REFERENCE);
        Check.put(kit, 3, 3, "GTC");
        Check.put(kit, 5, 1, "C");
        Check.due("12: normalised", kit.normalise(0), 1);
        kit.join(0);
        Check.due("12: with a normalised one", Check.shape(kit, 0), "5 A C");
        Check.due("12: with a normalised one", kit.records(), 1);
        Check.put(kit, 5, 3, "CCG");
        kit.join(0);
        Check.due("12: with a longer one", Check.shape(kit, 0), "5 ACG CCG");
    }

    /** The joined genotype of sample 0 when its first place has one allele here and another there. */
    private static String joinedGenotype(int first, int second, boolean onePhased, boolean otherPhased) {
        VariantKit kit = Check.on(REFERENCE);
        Check.draft(kit, 3, 1, "A");
        kit.genotype(0, first, 0, onePhased);
        kit.add();
        Check.draft(kit, 3, 1, "T", "A");
        kit.genotype(0, second, -1, otherPhased);
        kit.add();
        kit.join(0);
        int at = 1 + kit.about(0, 1) * 3 + 5;
        return kit.written(0, at) + " " + kit.written(0, at + 1) + " " + kit.written(0, at + 2);
    }

    private static void joinGenotypes() {
        int[][] cases = {{-1, -1, 0}, {-1, 0, 2}, {-1, 1, 6}, {-1, 2, 4}, {0, -1, 2}, {0, 0, 2},
            {0, 1, 6}, {0, 2, 4}, {1, -1, 4}, {1, 0, 4}, {1, 1, 4}, {1, 2, 4}};
        for (int[] one : cases) {
            Check.due("12: " + one[0] + " and " + one[1],
                    joinedGenotype(one[0], one[1], true, false), "33 " + one[2] + " 2");
        }
        Check.due("12: both phased", joinedGenotype(1, 0, true, true), "33 5 3");
        Check.due("12: the second phased", joinedGenotype(1, 0, false, true), "33 4 2");
        Check.due("12: none phased", joinedGenotype(1, 0, false, false), "33 4 2");
    }

    private static void joinInTheList() {
        VariantKit kit = Check.on(REFERENCE);
        Check.put(kit, 1, 1, "C");
        Check.put(kit, 5, 1, "C");
        Check.put(kit, 5, 1, "G");
        Check.put(kit, 5, 2, "A");
        Check.put(kit, 5, 1, "T");
        Check.put(kit, 9, 1, "T");
        kit.join(2);
        String[] want = {"1 A C", "5 A C", "5 AC GC A", "5 A T", "9 A T"};
        Check.due("12: records", kit.records(), want.length);
        for (int i = 0; i < want.length; i++) {
            Check.due("12: in place of the two", Check.shape(kit, i), want[i]);
        }
        kit.join(1);
        Check.due("12: again", Check.shape(kit, 1), "5 AC CC GC A");
        Check.due("12: the next one moves up", Check.shape(kit, 2), "5 A T");
    }

    private static void joinRefused() {
        VariantKit kit = Check.on(REFERENCE);
        Check.illegalArgument("12: none", () -> kit.join(0));
        Check.put(kit, 1, 1, "C");
        Check.illegalArgument("12: -1", () -> kit.join(-1));
        Check.illegalArgument("12: 1", () -> kit.join(1));
        Check.noSuchElement("12: no next one", () -> kit.join(0));
        Check.put(kit, 2, 1, "A");
        Check.noSuchElement("12: the next one has another place", () -> kit.join(0));
        Check.fill(kit, 3, "A");
        Check.noSuchElement("12: the last of 24", () -> kit.join(23));
        kit.join(22);
        Check.due("12: the last two of 24", kit.records(), 23);
    }

    private static void notDone(String what, VariantKit kit) {
        String before = Check.all(kit);
        Check.illegalState("12: " + what, () -> kit.join(0));
        Check.due("12: unchanged after " + what, Check.all(kit), before);
    }

    private static void joinNotDone() {
        VariantKit five = Check.on(REFERENCE);
        Check.put(five, 3, 1, "A", "C");
        Check.put(five, 3, 1, "T", "GG");
        notDone("five alleles", five);
        VariantKit shared = Check.on(REFERENCE);
        Check.put(shared, 3, 1, "A", "C", "T");
        Check.put(shared, 3, 1, "T", "C", "A");
        shared.join(0);
        Check.due("12: four alleles of both", Check.shape(shared, 0), "3 G A C T");
        VariantKit firstLong = Check.on(REFERENCE);
        Check.put(firstLong, 5, 1, "CCCCCCCC");
        Check.put(firstLong, 5, 2, "A");
        notDone("nine bases of the first", firstLong);
        VariantKit secondLong = Check.on(REFERENCE);
        Check.put(secondLong, 5, 8, "A");
        Check.put(secondLong, 5, 1, "C", "CC");
        notDone("nine bases of the second", secondLong);
        VariantKit longest = Check.on(REFERENCE);
        Check.put(longest, 5, 8, "A");
        Check.put(longest, 5, 1, "TTTTTTTT");
        notDone("fifteen bases", longest);
    }

    private static void splitAndJoinAgain() {
        VariantKit kit = Check.on(REFERENCE);
        putRich(kit);
        kit.split(0);
        kit.join(0);
        kit.join(0);
        Check.due("12: split and joined", Check.bytes(kit, 0),
                "5 0 44 1 4 39 65 67 23 65 55 65 67 67 39 84 84 65 10 11 12 13"
                + " 33 5 7 162 20 0 21 0 22 0 23 0 231 3 25 0 26 0 231 3 231 3 29 0"
                + " 33 0 8 162 40 0 41 0 42 0 43 0 231 3 45 0 46 0 231 3 231 3 49 0");
        VariantKit same = Check.on(REFERENCE);
        Check.put(same, 1, 1, "C");
        Check.put(same, 1, 1, "C");
        same.join(0);
        Check.due("12: all empty", Check.bytes(same, 0), "1 0 0 0 2 23 65 23 67 33 0 0" + EMPTY_TAIL);
    }
}
