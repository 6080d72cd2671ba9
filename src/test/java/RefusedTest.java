import java.util.HashMap;
import java.util.Map;
import java.util.NoSuchElementException;

/**
 * Each exception that a promise names, for each of the reasons that it gives; and after each of these
 * refused calls, that all else which the face can show is as it was before (for read: but for the bytes).
 */
public final class RefusedTest {
    private static final int MIN = Integer.MIN_VALUE;
    private static final int MAX = Integer.MAX_VALUE;
    private static final Class<?> ARGUMENT = IllegalArgumentException.class;
    private static final Class<?> STATE = IllegalStateException.class;
    private static final Class<?> BOUNDS = IndexOutOfBoundsException.class;
    private static final Class<?> ELEMENT = NoSuchElementException.class;

    private static final Probe.Recipe EMPTY = kit -> { };
    private static final Probe.Recipe BARE = kit -> kit.reference(Check.packed("ACGTACGTACGTACGT"), 16);
    private static final Probe.Recipe LONE = RefusedTest::lone;
    private static final Probe.Recipe WIDE = RefusedTest::wide;
    private static final Probe.Recipe LISTED = RefusedTest::listed;
    private static final Probe.Recipe BUSY = RefusedTest::busy;
    private static final Probe.Recipe CROWD = kit -> crowd(kit, 24);
    private static final Probe.Recipe FULL = RefusedTest::full;
    private static final Map<Probe.Recipe, String> SEEN = new HashMap<>();

    private RefusedTest() {
    }

    public static void main(String[] args) {
        reference();
        draft();
        allele();
        depth();
        genotype();
        likelihood();
        add();
        noSuchRecord();
        split();
        join();
        written();
        type();
        readOfNoRecord();
        readWhenFull();
        about();
        base();
        foundAndMean();
        Check.end();
    }

    /** A draft of one allele, in which nothing is as in a new one. */
    private static void lone(VariantKit kit) {
        BARE.make(kit);
        kit.draft(2, 3);
        kit.depth(0, 200, 300);
        kit.genotype(1, 0, -1, true);
        kit.likelihood(0, 0, 400);
    }

    /** A draft of four alleles. */
    private static void wide(VariantKit kit) {
        BARE.make(kit);
        Check.draft(kit, 2, 3, "A", "TTTTTTTT", "CG");
        kit.depth(3, 7, 8);
        kit.genotype(0, 3, 1, true);
        kit.likelihood(1, 9, 10);
    }

    /** Seven records at places 3, 5 and 9; of the first two, and of the last two at 5, no join is done. */
    private static void listed(VariantKit kit) {
        BARE.make(kit);
        Check.draft(kit, 3, 1, "A", "C");
        kit.depth(2, 9, 800);
        kit.genotype(0, 2, 1, false);
        kit.add();
        Check.draft(kit, 3, 2, "G", "TT");
        kit.likelihood(1, 5, 128);
        kit.add();
        Check.put(kit, 5, 1, "CCCCCCCC");
        Check.put(kit, 5, 2, "A");
        Check.put(kit, 5, 8, "T");
        Check.put(kit, 5, 1, "CC");
        Check.put(kit, 9, 1, "C");
    }

    private static void draftAndHalfTheBytes(VariantKit kit) {
        Check.draft(kit, 4, 2, "CC");
        kit.depth(1, 6, 5);
        kit.genotype(0, 1, 0, true);
        kit.likelihood(0, 2, 3);
        kit.type(0x03005000021747L, 7);
    }

    private static void busy(VariantKit kit) {
        LISTED.make(kit);
        draftAndHalfTheBytes(kit);
    }

    /** So many records, the last but one of three alleles and the last one of four. */
    private static void crowd(VariantKit kit, int records) {
        BARE.make(kit);
        for (int i = 0; i < records - 2; i++) {
            Check.draft(kit, 1, 1, "C");
            kit.depth(0, i, 10 * i);
            kit.add();
        }
        Check.put(kit, 4, 1, "A", "C");
        Check.put(kit, 5, 2, "A", "C", "G");
    }

    private static void full(VariantKit kit) {
        CROWD.make(kit);
        draftAndHalfTheBytes(kit);
    }

    private static String seen(Probe.Recipe recipe) {
        return SEEN.computeIfAbsent(recipe, Probe::everything);
    }

    private static void refused(String what, Class<?> due, Probe.Recipe before, Probe.Recipe call) {
        refused(what, due, before, call, before);
    }

    private static void refused(String what, Class<?> due, Probe.Recipe before, Probe.Recipe call,
            Probe.Recipe after) {
        VariantKit kit = Probe.made(before);
        Check.throwing(what, due, () -> call.make(kit));
        String left = Probe.everything(other -> {
            before.make(other);
            attempt(other, call);
        });
        Check.due("the state after " + what, left, seen(after));
    }

    private static void attempt(VariantKit kit, Probe.Recipe call) {
        try {
            call.make(kit);
        } catch (RuntimeException e) {
            // Which one it is has been looked at already.
        }
    }

    private static void reference() {
        for (int n : new int[] {0, -1, 17, 33, MIN, MAX}) {
            refused("2: n " + n + " of a new object", ARGUMENT, EMPTY, kit -> kit.reference(5, n));
            refused("2: n " + n + " behind bases", ARGUMENT, BARE, kit -> kit.reference(5, n));
            refused("2: n " + n + " with records and a draft", ARGUMENT, BUSY, kit -> kit.reference(5, n));
        }
        for (int n = 1; n <= 16; n++) {
            int more = n;
            Probe.Recipe almost = kit -> grow(kit, 161 - more);
            refused("2: 161 by " + n, STATE, almost, kit -> kit.reference(-1, more));
        }
        refused("2: 161 to 160", STATE, kit -> grow(kit, 160), kit -> kit.reference(1, 1));
        refused("2: 176", STATE, kit -> grow(kit, 160), kit -> kit.reference(1, 16));
        refused("2: n is looked at first", ARGUMENT, kit -> grow(kit, 160), kit -> kit.reference(1, 17));
        refused("2: a draft of one allele", STATE, LONE, kit -> kit.reference(1, 1));
        refused("2: a draft of four", STATE, WIDE, kit -> kit.reference(1, 1));
        refused("2: records", STATE, LISTED, kit -> kit.reference(1, 1));
        refused("2: records and a draft", STATE, BUSY, kit -> kit.reference(1, 1));
        refused("2: 24 records", STATE, CROWD, kit -> kit.reference(1, 1));
    }

    private static void grow(VariantKit kit, int bases) {
        int length = 0;
        while (length < bases) {
            int n = Math.min(16, bases - length);
            length = kit.reference(0x1B2D4E87L + 77 * length, n);
        }
    }

    private static void draft() {
        refused("3: no reference", ARGUMENT, EMPTY, kit -> kit.draft(1, 1));
        for (int length : new int[] {0, -1, 9, MIN, MAX}) {
            refused("3: length " + length, ARGUMENT, BARE, kit -> kit.draft(1, length));
            refused("3: length " + length + ", a draft", ARGUMENT, BUSY, kit -> kit.draft(1, length));
            refused("3: length " + length + ", 24 records", ARGUMENT, FULL, kit -> kit.draft(1, length));
        }
        int[][] places = {{0, 1}, {0, 8}, {-1, 2}, {-7, 8}, {17, 1}, {16, 2}, {10, 8}, {17, 8}, {MIN, 1},
            {MIN, 8}, {MAX, 1}, {MAX, 2}, {MAX, 8}, {MAX - 7, 8}};
        for (int[] one : places) {
            String what = "3: " + one[0] + ", " + one[1];
            refused(what, ARGUMENT, BARE, kit -> kit.draft(one[0], one[1]));
            refused(what + ", a draft of one allele", ARGUMENT, LONE, kit -> kit.draft(one[0], one[1]));
            refused(what + ", a draft", ARGUMENT, BUSY, kit -> kit.draft(one[0], one[1]));
        }
    }

    private static void allele() {
        for (int n : new int[] {0, -1, 9, 16, MIN, MAX}) {
            refused("4: n " + n, ARGUMENT, BUSY, kit -> kit.allele(5, n));
            refused("4: n " + n + ", no draft", ARGUMENT, LISTED, kit -> kit.allele(5, n));
            refused("4: n " + n + ", four alleles", ARGUMENT, WIDE, kit -> kit.allele(5, n));
        }
        refused("4: no draft of a new object", STATE, EMPTY, kit -> kit.allele(0, 1));
        refused("4: no draft", STATE, BARE, kit -> kit.allele(0, 1));
        refused("4: no draft but records", STATE, LISTED, kit -> kit.allele(0, 1));
        refused("4: four alleles", STATE, WIDE, kit -> kit.allele(3, 1));
        refused("4: four alleles, of 8 bases", STATE, WIDE, kit -> kit.allele(3, 8));
        refused("4: the REF", STATE, LONE, kit -> kit.allele(Check.packed("CGT"), 3));
        Probe.Recipe three = kit -> {
            BARE.make(kit);
            Check.draft(kit, 2, 3, "A", "TTTTTTTT");
        };
        refused("4: the REF of three", STATE, three, kit -> kit.allele(Check.packed("CGT"), 3));
        refused("4: allele 1", STATE, three, kit -> kit.allele(0, 1));
        refused("4: allele 2", STATE, three, kit -> kit.allele(-1, 8));
        refused("4: allele 1 behind higher bits", STATE, three, kit -> kit.allele(-4, 1));
    }

    private static void depth() {
        for (Probe.Recipe none : new Probe.Recipe[] {EMPTY, BARE, LISTED, CROWD}) {
            refused("5: no draft", ARGUMENT, none, kit -> kit.depth(0, 1, 1));
        }
        refused("5: one allele", ARGUMENT, LONE, kit -> kit.depth(1, 1, 1));
        refused("5: four alleles", ARGUMENT, WIDE, kit -> kit.depth(4, 1, 1));
        for (int allele : new int[] {-1, 2, MIN, MAX}) {
            refused("5: allele " + allele, ARGUMENT, BUSY, kit -> kit.depth(allele, 1, 1));
        }
        for (int depth : new int[] {-1, 10000, MIN, MAX}) {
            refused("5: depth " + depth, ARGUMENT, BUSY, kit -> kit.depth(1, depth, 1));
        }
        for (int quality : new int[] {-1, 8001, MIN, MAX}) {
            refused("5: quality " + quality, ARGUMENT, BUSY, kit -> kit.depth(1, 1, quality));
        }
    }

    private static void genotype() {
        for (Probe.Recipe none : new Probe.Recipe[] {EMPTY, BARE, LISTED, CROWD}) {
            refused("6: no draft", ARGUMENT, none, kit -> kit.genotype(0, -1, -1, true));
        }
        for (int sample : new int[] {-1, 2, MIN, MAX}) {
            refused("6: sample " + sample, ARGUMENT, BUSY, kit -> kit.genotype(sample, 1, 1, false));
        }
        refused("6: one allele, first", ARGUMENT, LONE, kit -> kit.genotype(1, 1, -1, false));
        refused("6: one allele, second", ARGUMENT, LONE, kit -> kit.genotype(1, 0, 1, false));
        refused("6: four alleles, first", ARGUMENT, WIDE, kit -> kit.genotype(0, 4, 0, false));
        refused("6: four alleles, second", ARGUMENT, WIDE, kit -> kit.genotype(0, 0, 4, false));
        for (int allele : new int[] {-2, 2, MIN, MAX}) {
            refused("6: first " + allele, ARGUMENT, BUSY, kit -> kit.genotype(0, allele, 1, false));
            refused("6: second " + allele, ARGUMENT, BUSY, kit -> kit.genotype(0, 0, allele, false));
            refused("6: both " + allele, ARGUMENT, BUSY, kit -> kit.genotype(1, allele, allele, true));
        }
    }

    private static void likelihood() {
        for (Probe.Recipe none : new Probe.Recipe[] {EMPTY, BARE, LISTED, CROWD}) {
            refused("7: no draft", ARGUMENT, none, kit -> kit.likelihood(0, 0, 1));
        }
        for (int sample : new int[] {-1, 2, MIN, MAX}) {
            refused("7: sample " + sample, ARGUMENT, BUSY, kit -> kit.likelihood(sample, 0, 1));
        }
        for (int number : new int[] {-1, 3, 10, MIN, MAX}) {
            refused("7: number " + number, ARGUMENT, BUSY, kit -> kit.likelihood(0, number, 1));
            refused("7: number " + number + ", sample 1", ARGUMENT, BUSY,
                    kit -> kit.likelihood(1, number, 1));
        }
        refused("7: number 1 of one allele", ARGUMENT, LONE, kit -> kit.likelihood(0, 1, 1));
        refused("7: number 10 of four alleles", ARGUMENT, WIDE, kit -> kit.likelihood(0, 10, 1));
        for (int value : new int[] {-1, 1000, MIN, MAX}) {
            refused("7: value " + value, ARGUMENT, BUSY, kit -> kit.likelihood(0, 2, value));
        }
    }

    private static void add() {
        for (Probe.Recipe none : new Probe.Recipe[] {EMPTY, BARE, LISTED, CROWD}) {
            refused("8: no draft", STATE, none, VariantKit::add);
        }
        refused("8: one allele", STATE, LONE, VariantKit::add);
        refused("8: 24 records", STATE, FULL, VariantKit::add);
        Probe.Recipe added = kit -> {
            WIDE.make(kit);
            kit.add();
        };
        refused("8: the draft is there no more", STATE, added, VariantKit::add);
    }

    /** Promises 9 to 13, 17 and 18: there is no such record. */
    private static void noSuchRecord() {
        for (int record : new int[] {0, -1, 1, MIN, MAX}) {
            noRecord("of a new object", EMPTY, record);
            noRecord("of none, with a draft", WIDE, record);
        }
        for (int record : new int[] {-1, 7, 8, MIN, MAX}) {
            noRecord("of seven", BUSY, record);
        }
        for (int record : new int[] {-1, 24, 25, MIN, MAX}) {
            noRecord("of 24", FULL, record);
        }
    }

    private static void noRecord(String where, Probe.Recipe state, int record) {
        String what = "record " + record + " " + where;
        refused("9: " + what, ARGUMENT, state, kit -> kit.remove(record));
        refused("10: " + what, ARGUMENT, state, kit -> kit.normalise(record));
        refused("11: " + what, ARGUMENT, state, kit -> kit.split(record));
        refused("12: " + what, ARGUMENT, state, kit -> kit.join(record));
        refused("13: " + what, ARGUMENT, state, kit -> kit.written(record, -1));
        refused("13: no byte, " + what, ARGUMENT, state, kit -> kit.written(record, -2));
        refused("17: " + what, ARGUMENT, state, kit -> kit.about(record, 0));
        refused("18: " + what, ARGUMENT, state, kit -> kit.base(record, 0, -1));
        refused("18: no base, " + what, ARGUMENT, state, kit -> kit.base(record, 0, -2));
    }

    private static void split() {
        refused("11: two alleles", STATE, BUSY, kit -> kit.split(2));
        refused("11: two alleles of 24 records", STATE, FULL, kit -> kit.split(0));
        refused("11: three alleles, 25", STATE, FULL, kit -> kit.split(22));
        refused("11: four alleles, 26", STATE, FULL, kit -> kit.split(23));
        refused("11: four alleles, 25", STATE, kit -> crowd(kit, 23), kit -> kit.split(22));
    }

    private static void join() {
        refused("12: the last one", ELEMENT, BUSY, kit -> kit.join(6));
        refused("12: the last one of 24", ELEMENT, FULL, kit -> kit.join(23));
        refused("12: the next one has another place", ELEMENT, BUSY, kit -> kit.join(1));
        refused("12: the next one is a place on", ELEMENT, FULL, kit -> kit.join(22));
        Probe.Recipe one = kit -> {
            BARE.make(kit);
            Check.put(kit, 16, 1, "A");
        };
        refused("12: the only one", ELEMENT, one, kit -> kit.join(0));
        refused("12: five alleles", STATE, BUSY, kit -> kit.join(0));
        refused("12: nine bases of the first one", STATE, BUSY, kit -> kit.join(2));
        refused("12: nine bases of the second one", STATE, BUSY, kit -> kit.join(4));
    }

    private static void written() {
        // The first record is 5 + 3 * 2 + 4 + 2 * (3 + 7) bytes, the second one 5 + 3 + 2 + 3 + 4 + 10 + 16.
        int[] bytes = {35, 43};
        for (int record = 0; record < bytes.length; record++) {
            int number = record;
            Check.due("13: bytes", Probe.made(BUSY).written(number, -1), bytes[number]);
            for (int i : new int[] {-2, bytes[record], bytes[record] + 1, MIN, MAX}) {
                refused("13: byte " + i, BOUNDS, BUSY, kit -> kit.written(number, i));
            }
        }
    }

    private static void type() {
        for (int n : new int[] {0, -1, 9, 16, MIN, MAX}) {
            refused("14: n " + n + " of a new object", ARGUMENT, EMPTY, kit -> kit.type(5, n));
            refused("14: n " + n, ARGUMENT, BUSY, kit -> kit.type(5, n));
            refused("14: n " + n + " with 120", ARGUMENT, kit -> stuff(kit, 120), kit -> kit.type(5, n));
        }
        for (int n = 1; n <= 8; n++) {
            int more = n;
            refused("14: 121 by " + n, STATE, kit -> stuff(kit, 121 - more), kit -> kit.type(-1, more));
            refused("14: " + (120 + n), STATE, kit -> stuff(kit, 120), kit -> kit.type(-1, more));
        }
    }

    /** So many bytes in a state with records and a draft. */
    private static void stuff(VariantKit kit, int bytes) {
        LISTED.make(kit);
        for (int i = 0; i < bytes; i += 8) {
            kit.type(0x4143475441434754L, Math.min(8, bytes - i));
        }
        Check.draft(kit, 7, 1, "A");
    }

    private static void readRefused(String what, String bytes) {
        Probe.Recipe drafted = kit -> {
            LISTED.make(kit);
            Check.draft(kit, 7, 1, "A");
        };
        Probe.Recipe typed = kit -> {
            drafted.make(kit);
            Check.type(kit, bytes);
        };
        refused("15: " + what, ARGUMENT, typed, VariantKit::read, drafted);
    }

    private static void readOfNoRecord() {
        refused("15: no bytes of a new object", ARGUMENT, EMPTY, VariantKit::read);
        refused("15: no reference", ARGUMENT, kit -> Check.type(kit, Probe.PLAIN), VariantKit::read, EMPTY);
        readRefused("no bytes", "");
        readRefused("one byte", "3");
        readRefused("all but the last byte", Probe.PLAIN.substring(0, Probe.PLAIN.length() - 2));
        readRefused("one byte more", Probe.PLAIN + " 0");
        readRefused("another REF than the reference's", Probe.PLAIN.replaceFirst("^3 ", "4 "));
        readRefused("the last place and one more", "17" + Probe.PLAIN.substring(1));
        readRefused("120 bytes", "65 ".repeat(119) + "65");
    }

    private static void readWhenFull() {
        for (String bytes : new String[] {"", Probe.PLAIN, "1 2 3"}) {
            Probe.Recipe crowd = kit -> {
                CROWD.make(kit);
                Check.draft(kit, 7, 1, "A");
            };
            Probe.Recipe typed = kit -> {
                crowd.make(kit);
                Check.type(kit, bytes);
            };
            refused("15: 24 records and bytes " + bytes, STATE, typed, VariantKit::read, crowd);
        }
    }

    private static void about() {
        for (int what : new int[] {-1, 5, MIN, MAX}) {
            refused("17: what " + what, ARGUMENT, BUSY, kit -> kit.about(6, what));
        }
        refused("17: neither the record nor the what", ARGUMENT, BUSY, kit -> kit.about(7, 5));
    }

    private static void base() {
        for (int allele : new int[] {-1, 3, MIN, MAX}) {
            refused("18: allele " + allele, ARGUMENT, BUSY, kit -> kit.base(1, allele, 0));
            refused("18: no base of allele " + allele, ARGUMENT, BUSY, kit -> kit.base(1, allele, -2));
        }
        refused("18: allele 2 of two", ARGUMENT, BUSY, kit -> kit.base(2, 2, 0));
        refused("18: allele 4 of four", ARGUMENT, FULL, kit -> kit.base(23, 4, 0));
        for (int i : new int[] {-2, 1, MIN, MAX}) {
            refused("18: base " + i + " of one", BOUNDS, BUSY, kit -> kit.base(0, 0, i));
        }
        for (int i : new int[] {-2, 8, MIN, MAX}) {
            refused("18: base " + i + " of eight", BOUNDS, BUSY, kit -> kit.base(2, 1, i));
        }
    }

    private static void foundAndMean() {
        int[][] regions = {{0, 0}, {0, 1}, {0, 255}, {-1, 255}, {2, 1}, {255, 254}, {256, 255}, {1, 256},
            {255, 256}, {256, 256}, {MIN, 1}, {MIN, MAX}, {1, MAX}, {MAX, MAX}, {MAX, MIN}, {1, MIN},
            {1, 0}, {1, -1}};
        for (int[] region : regions) {
            for (Probe.Recipe state : new Probe.Recipe[] {EMPTY, BUSY, FULL}) {
                String what = region[0] + " to " + region[1];
                refused("19: " + what, ARGUMENT, state, kit -> kit.found(region[0], region[1]));
                refused("20: " + what, ARGUMENT, state, kit -> kit.mean(region[0], region[1]));
            }
        }
        refused("20: no records", ELEMENT, EMPTY, kit -> kit.mean(1, 255));
        refused("20: no records but a draft", ELEMENT, WIDE, kit -> kit.mean(1, 255));
        refused("20: none before", ELEMENT, BUSY, kit -> kit.mean(1, 2));
        refused("20: none behind", ELEMENT, BUSY, kit -> kit.mean(13, 255));
    }
}
