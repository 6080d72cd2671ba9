import java.util.NoSuchElementException;

/**
 * Variants of a reference: drafted or read from bytes, kept in a list by rising places, normalised,
 * split, joined, written out and found by regions. The document is ../shared/DOC.md.
 */
public final class VariantKit {
    private static final int MOST_REFERENCE = 160;
    private static final int MOST_APPENDED_BASES = 16;
    private static final int MOST_RECORDS = 24;
    private static final int MOST_ALLELES = 4;
    private static final int MOST_PAIRS = 10;
    private static final int MOST_LENGTH = 8;
    private static final int MOST_QUALITY = 8000;
    private static final int MOST_DEPTH = 9999;
    private static final int MOST_LIKELIHOOD = 999;
    private static final int MOST_BYTES = 120;
    private static final int MOST_TYPED_BYTES = 8;
    private static final int LAST_BINNED_PLACE = 255;
    private static final int SAMPLES = 2;
    private static final int MISSING = -1;
    // Each step of normalising moves a record to the left or makes it shorter, so that 160 places
    // and 8 bases allow far fewer steps than these.
    private static final int MOST_STEPS = 1000;
    private static final int ALLELE_MARK = 7;
    private static final int GENOTYPE_MARK = 33;
    private static final int MOST_NARROW = 127;
    private static final int[] LETTERS = {65, 67, 71, 84};

    private final Reference reference;
    private final RecordList list;
    private final Variant draft;
    private boolean drafted;
    private final Variant scratch;
    private final Joiner joiner;
    private final ByteRow typed;
    private final ByteRow output;

    public VariantKit() {
        reference = new Reference();
        list = new RecordList();
        draft = new Variant();
        drafted = false;
        scratch = new Variant();
        joiner = new Joiner();
        typed = new ByteRow();
        output = new ByteRow();
    }

    public int reference(long bases, int n) throws IllegalArgumentException, IllegalStateException {
        if (n < 1 || n > MOST_APPENDED_BASES) {
            throw new IllegalArgumentException("n is not 1 .. 16");
        }
        if (drafted || list.size > 0) {
            throw new IllegalStateException("there are records or a draft");
        }
        if (reference.length + n > MOST_REFERENCE) {
            throw new IllegalStateException("there would be more than 160 bases");
        }
        reference.append(bases, n);
        return reference.length;
    }

    public void draft(int place, int length) throws IllegalArgumentException {
        if (length < 1 || length > MOST_LENGTH) {
            throw new IllegalArgumentException("length is not 1 .. 8");
        }
        if (!reference.covers(place, length)) {
            throw new IllegalArgumentException("the reference does not have these places");
        }
        draft.clear();
        draft.place = place;
        draft.appendAllele(reference.packed(place, length), length);
        drafted = true;
    }

    public int allele(long bases, int n) throws IllegalArgumentException, IllegalStateException {
        if (n < 1 || n > MOST_LENGTH) {
            throw new IllegalArgumentException("n is not 1 .. 8");
        }
        if (!drafted) {
            throw new IllegalStateException("there is no draft");
        }
        if (draft.alleles == MOST_ALLELES) {
            throw new IllegalStateException("the draft has four alleles");
        }
        int packed = (int) (bases & lowBases(n));
        if (draft.find(packed, n) >= 0) {
            throw new IllegalStateException("the draft has that allele");
        }
        draft.appendAllele(packed, n);
        return draft.alleles - 1;
    }

    public void depth(int allele, int depth, int quality) throws IllegalArgumentException {
        if (!drafted || !draft.hasAllele(allele)) {
            throw new IllegalArgumentException("there is no draft or no such allele");
        }
        if (!isWithin(depth, MOST_DEPTH) || !isWithin(quality, MOST_QUALITY)) {
            throw new IllegalArgumentException("the depth or the quality is out of its bounds");
        }
        draft.depths[allele] = depth;
        draft.quality = quality;
    }

    public void genotype(int sample, int first, int second, boolean phased)
            throws IllegalArgumentException {
        if (!drafted || !isSample(sample)) {
            throw new IllegalArgumentException("there is no draft or no such sample");
        }
        if (!draft.allowsInGenotype(first) || !draft.allowsInGenotype(second)) {
            throw new IllegalArgumentException("no such allele");
        }
        draft.genotypes[2 * sample] = first;
        draft.genotypes[2 * sample + 1] = second;
        draft.phased[sample] = phased;
    }

    public void likelihood(int sample, int number, int value) throws IllegalArgumentException {
        if (!drafted || !isSample(sample)) {
            throw new IllegalArgumentException("there is no draft or no such sample");
        }
        if (number < 0 || number >= draft.pairs()) {
            throw new IllegalArgumentException("no such pair");
        }
        if (!isWithin(value, MOST_LIKELIHOOD)) {
            throw new IllegalArgumentException("value is not 0 .. 999");
        }
        draft.likelihoods[MOST_PAIRS * sample + number] = value;
    }

    public int add() throws IllegalStateException {
        if (!drafted) {
            throw new IllegalStateException("there is no draft");
        }
        if (draft.alleles < 2) {
            throw new IllegalStateException("the draft has one allele");
        }
        if (list.isFull()) {
            throw new IllegalStateException("there are 24 records");
        }
        drafted = false;
        return list.insert(draft);
    }

    public void remove(int record) throws IllegalArgumentException {
        requireRecord(record);
        list.close(record);
    }

    public int normalise(int record) throws IllegalArgumentException {
        requireRecord(record);
        scratch.copy(list.rows[record]);
        scratch.trim(reference);
        list.close(record);
        return list.insert(scratch);
    }

    public int split(int record) throws IllegalArgumentException, IllegalStateException {
        requireRecord(record);
        int parts = list.rows[record].alleles - 1;
        if (parts < 2) {
            throw new IllegalStateException("the record has two alleles");
        }
        if (list.size - 1 + parts > MOST_RECORDS) {
            throw new IllegalStateException("there would be more than 24 records");
        }
        scratch.copy(list.rows[record]);
        list.close(record);
        for (int part = 0; part < parts; part++) {
            list.open(record + part).becomePart(scratch, part + 1);
        }
        return parts;
    }

    public void join(int record)
            throws IllegalArgumentException, NoSuchElementException, IllegalStateException {
        requireRecord(record);
        if (record + 1 >= list.size || list.rows[record + 1].place != list.rows[record].place) {
            throw new NoSuchElementException("there is no next record with this place");
        }
        if (!joiner.unite(list.rows[record], list.rows[record + 1])) {
            throw new IllegalStateException("more than four alleles, or one of more than 8 bases");
        }
        list.close(record + 1);
        list.rows[record].copy(joiner.joined);
    }

    public int written(int record, int i) throws IllegalArgumentException, IndexOutOfBoundsException {
        requireRecord(record);
        output.putVariant(list.rows[record]);
        if (i < -1 || i >= output.count) {
            throw new IndexOutOfBoundsException("no such byte");
        }
        return i == -1 ? output.count : output.row[i];
    }

    public void type(long bytes, int n) throws IllegalArgumentException, IllegalStateException {
        if (n < 1 || n > MOST_TYPED_BYTES) {
            throw new IllegalArgumentException("n is not 1 .. 8");
        }
        if (typed.count + n > MOST_BYTES) {
            throw new IllegalStateException("there would be more than 120 bytes");
        }
        for (int i = n - 1; i >= 0; i--) {
            typed.put((int) (bytes >>> (8 * i)) & 255);
        }
    }

    public int read() throws IllegalArgumentException, IllegalStateException {
        boolean full = list.isFull();
        boolean isRecord = !full && takeTyped();
        typed.count = 0;
        if (full) {
            throw new IllegalStateException("there are 24 records");
        }
        if (!isRecord) {
            throw new IllegalArgumentException("the bytes are no record on this reference");
        }
        return list.insert(scratch);
    }

    public int records() {
        return list.size;
    }

    public int about(int record, int what) throws IllegalArgumentException {
        requireRecord(record);
        Variant variant = list.rows[record];
        switch (what) {
            case 0:
                return variant.place;
            case 1:
                return variant.alleles;
            case 2:
                return variant.lengths[0];
            case 3:
                return variant.quality;
            case 4:
                return variant.bin();
            default:
                throw new IllegalArgumentException("no such what");
        }
    }

    public int base(int record, int allele, int i)
            throws IllegalArgumentException, IndexOutOfBoundsException {
        requireRecord(record);
        Variant variant = list.rows[record];
        if (!variant.hasAllele(allele)) {
            throw new IllegalArgumentException("no such allele");
        }
        int length = variant.lengths[allele];
        if (i < -1 || i >= length) {
            throw new IndexOutOfBoundsException("no such base");
        }
        return i == -1 ? length : baseOf(variant.packed[allele], length, i);
    }

    public int found(int begin, int end) throws IllegalArgumentException {
        requireRegion(begin, end);
        int found = 0;
        for (int i = 0; i < list.size; i++) {
            if (list.rows[i].spansOneOf(begin, end)) {
                found++;
            }
        }
        return found;
    }

    public float mean(int begin, int end) throws IllegalArgumentException, NoSuchElementException {
        requireRegion(begin, end);
        int found = 0;
        float sum = 0f;
        for (int i = 0; i < list.size; i++) {
            if (list.rows[i].spansOneOf(begin, end)) {
                found++;
                sum = sum + (float) list.rows[i].quality * 0.125f;
            }
        }
        if (found == 0) {
            throw new NoSuchElementException("there are no such records");
        }
        return sum / (float) found;
    }

    private void requireRecord(int record) {
        if (record < 0 || record >= list.size) {
            throw new IllegalArgumentException("there is no such record");
        }
    }

    private static void requireRegion(int begin, int end) {
        if (begin < 1 || begin > end || end > LAST_BINNED_PLACE) {
            throw new IllegalArgumentException("begin and end are not in order in 1 .. 255");
        }
    }

    /**
     * Brings the typed bytes into the scratch record. The reader only sees to it that the record is a
     * sound one; that it is written out as just these bytes is then told by writing it out.
     */
    private boolean takeTyped() {
        if (!typed.takeVariant(scratch, reference)) {
            return false;
        }
        output.putVariant(scratch);
        return output.isSame(typed);
    }

    private static boolean isWithin(int number, int most) {
        return number >= 0 && number <= most;
    }

    private static boolean isSample(int sample) {
        return sample >= 0 && sample < SAMPLES;
    }

    /** The mask of the lowest n bases of a packed row; an int holds up to 15 of them. */
    private static int lowBases(int n) {
        return (1 << (2 * n)) - 1;
    }

    private static int baseOf(long packed, int n, int i) {
        return (int) (packed >>> (2 * (n - 1 - i))) & 3;
    }

    private static int pairNumber(int j, int k) {
        int low = Math.min(j, k);
        int high = Math.max(j, k);
        return high * (high + 1) / 2 + low;
    }

    /** The bases that all records lie on; place 1 is at index 0. */
    private static final class Reference {
        private final int[] bases;
        private int length;

        Reference() {
            bases = new int[MOST_REFERENCE];
            length = 0;
        }

        void append(long packed, int n) {
            for (int i = 0; i < n && length < MOST_REFERENCE; i++) {
                bases[length] = baseOf(packed, n, i);
                length++;
            }
        }

        boolean covers(int place, int n) {
            return place >= 1 && place <= length - n + 1;
        }

        int packed(int place, int n) {
            int packed = 0;
            for (int i = 0; i < n; i++) {
                packed = packed << 2 | bases[place - 1 + i];
            }
            return packed;
        }
    }

    /**
     * One record. An allele is a packed row, two bits a base and the last base lowest, beside its
     * length; genotypes stand two a sample, likelihoods ten a sample.
     */
    private static final class Variant {
        private int place;
        private int quality;
        private int alleles;
        private final int[] packed;
        private final int[] lengths;
        private final int[] depths;
        private final int[] genotypes;
        private final boolean[] phased;
        private final int[] likelihoods;

        Variant() {
            packed = new int[MOST_ALLELES];
            lengths = new int[MOST_ALLELES];
            depths = new int[MOST_ALLELES];
            genotypes = new int[2 * SAMPLES];
            phased = new boolean[SAMPLES];
            likelihoods = new int[MOST_PAIRS * SAMPLES];
        }

        void clear() {
            place = 0;
            quality = 0;
            alleles = 0;
            for (int i = 0; i < 2 * SAMPLES; i++) {
                genotypes[i] = MISSING;
            }
            for (int sample = 0; sample < SAMPLES; sample++) {
                phased[sample] = false;
            }
            fillLikelihoods(0);
        }

        void fillLikelihoods(int value) {
            for (int i = 0; i < MOST_PAIRS * SAMPLES; i++) {
                likelihoods[i] = value;
            }
        }

        void copy(Variant other) {
            place = other.place;
            quality = other.quality;
            alleles = other.alleles;
            System.arraycopy(other.packed, 0, packed, 0, MOST_ALLELES);
            System.arraycopy(other.lengths, 0, lengths, 0, MOST_ALLELES);
            System.arraycopy(other.depths, 0, depths, 0, MOST_ALLELES);
            System.arraycopy(other.genotypes, 0, genotypes, 0, 2 * SAMPLES);
            System.arraycopy(other.likelihoods, 0, likelihoods, 0, MOST_PAIRS * SAMPLES);
            for (int sample = 0; sample < SAMPLES; sample++) {
                phased[sample] = other.phased[sample];
            }
        }

        void appendAllele(int bases, int length) {
            if (alleles < MOST_ALLELES) {
                packed[alleles] = bases;
                lengths[alleles] = length;
                depths[alleles] = 0;
                alleles++;
            }
        }

        int find(int bases, int length) {
            for (int a = 0; a < alleles; a++) {
                if (packed[a] == bases && lengths[a] == length) {
                    return a;
                }
            }
            return MISSING;
        }

        boolean hasAllele(int allele) {
            return allele >= 0 && allele < alleles;
        }

        boolean allowsInGenotype(int allele) {
            return allele == MISSING || hasAllele(allele);
        }

        int pairs() {
            return alleles * (alleles + 1) / 2;
        }

        int lastPlace() {
            return place + lengths[0] - 1;
        }

        boolean spansOneOf(int begin, int end) {
            return place <= end && lastPlace() >= begin;
        }

        int bin() {
            int last = lastPlace();
            if (place >> 3 == last >> 3) {
                return 11 + (place >> 3);
            }
            if (place >> 5 == last >> 5) {
                return 3 + (place >> 5);
            }
            if (place >> 7 == last >> 7) {
                return 1 + (place >> 7);
            }
            return 0;
        }

        void trim(Reference reference) {
            boolean changed = true;
            for (int step = 0; changed && step < MOST_STEPS; step++) {
                changed = trimEnd(reference) || trimFront();
            }
        }

        private boolean trimEnd(Reference reference) {
            if (!isLastBaseShared() || (place == 1 && shortest() < 2)) {
                return false;
            }
            for (int a = 0; a < alleles; a++) {
                packed[a] = packed[a] >> 2;
                lengths[a]--;
            }
            if (shortest() == 0) {
                place--;
                putInFront(reference.packed(place, 1));
            }
            return true;
        }

        private boolean trimFront() {
            if (shortest() < 2 || !isFirstBaseShared()) {
                return false;
            }
            for (int a = 0; a < alleles; a++) {
                lengths[a]--;
                packed[a] = packed[a] & lowBases(lengths[a]);
            }
            place++;
            return true;
        }

        private void putInFront(int base) {
            for (int a = 0; a < alleles; a++) {
                packed[a] = packed[a] | base << (2 * lengths[a]);
                lengths[a]++;
            }
        }

        private int shortest() {
            int shortest = lengths[0];
            for (int a = 1; a < alleles; a++) {
                shortest = Math.min(shortest, lengths[a]);
            }
            return shortest;
        }

        private boolean isLastBaseShared() {
            for (int a = 1; a < alleles; a++) {
                if ((packed[a] & 3) != (packed[0] & 3)) {
                    return false;
                }
            }
            return true;
        }

        private boolean isFirstBaseShared() {
            int first = baseOf(packed[0], lengths[0], 0);
            for (int a = 1; a < alleles; a++) {
                if (baseOf(packed[a], lengths[a], 0) != first) {
                    return false;
                }
            }
            return true;
        }

        /** Becomes what is left of another record when only its REF and one alternative count. */
        void becomePart(Variant whole, int alternative) {
            clear();
            place = whole.place;
            quality = whole.quality;
            appendAlleleOf(whole, 0);
            appendAlleleOf(whole, alternative);
            for (int i = 0; i < 2 * SAMPLES; i++) {
                int allele = whole.genotypes[i];
                genotypes[i] = allele == MISSING ? MISSING : allele == alternative ? 1 : 0;
            }
            for (int sample = 0; sample < SAMPLES; sample++) {
                phased[sample] = whole.phased[sample];
                int from = MOST_PAIRS * sample;
                likelihoods[from] = whole.likelihoods[from];
                likelihoods[from + 1] = whole.likelihoods[from + pairNumber(0, alternative)];
                likelihoods[from + 2] = whole.likelihoods[from + pairNumber(alternative, alternative)];
            }
        }

        void appendAlleleOf(Variant other, int allele) {
            appendAllele(other.packed[allele], other.lengths[allele]);
            depths[alleles - 1] = other.depths[allele];
        }

        /** Gives each allele what the longer REF of another record has more. */
        void lengthenLike(Variant other) {
            int more = other.lengths[0] - lengths[0];
            if (more <= 0) {
                return;
            }
            int tail = other.packed[0] & lowBases(more);
            for (int a = 0; a < alleles; a++) {
                packed[a] = packed[a] << (2 * more) | tail;
                lengths[a] += more;
            }
        }

        boolean hasTooLongAllele() {
            for (int a = 0; a < alleles; a++) {
                if (lengths[a] > MOST_LENGTH) {
                    return true;
                }
            }
            return false;
        }
    }

    /** The records by rising places. The rows from size on are spare ones, so that none is made anew. */
    private static final class RecordList {
        private final Variant[] rows;
        private int size;

        RecordList() {
            rows = new Variant[MOST_RECORDS];
            for (int i = 0; i < MOST_RECORDS; i++) {
                rows[i] = new Variant();
            }
            size = 0;
        }

        boolean isFull() {
            return size >= MOST_RECORDS;
        }

        /** Puts a copy behind the records of its place; the list is not full. */
        int insert(Variant variant) {
            int index = 0;
            while (index < size && rows[index].place <= variant.place) {
                index++;
            }
            open(index).copy(variant);
            return index;
        }

        /** Makes room at an index; the list is not full. */
        Variant open(int index) {
            Variant spare = rows[size];
            for (int i = size; i > index; i--) {
                rows[i] = rows[i - 1];
            }
            rows[index] = spare;
            size++;
            return spare;
        }

        void close(int index) {
            Variant spare = rows[index];
            for (int i = index; i < size - 1; i++) {
                rows[i] = rows[i + 1];
            }
            size--;
            rows[size] = spare;
        }
    }

    /** Joins two records of one place. It works on copies, as a join that is not done changes nothing. */
    private static final class Joiner {
        private final Variant first;
        private final Variant second;
        private final Variant joined;
        // The numbers that the second one's alleles have in the joined record.
        private final int[] numbers;

        Joiner() {
            first = new Variant();
            second = new Variant();
            joined = new Variant();
            numbers = new int[MOST_ALLELES];
        }

        boolean unite(Variant one, Variant next) {
            first.copy(one);
            second.copy(next);
            first.lengthenLike(next);
            second.lengthenLike(one);
            if (first.hasTooLongAllele() || second.hasTooLongAllele()) {
                return false;
            }
            joined.copy(first);
            if (!uniteAlleles()) {
                return false;
            }
            joined.quality = Math.max(first.quality, second.quality);
            uniteDepths();
            uniteGenotypes();
            uniteLikelihoods();
            return true;
        }

        private boolean uniteAlleles() {
            for (int a = 0; a < second.alleles; a++) {
                int number = joined.find(second.packed[a], second.lengths[a]);
                if (number == MISSING) {
                    if (joined.alleles == MOST_ALLELES) {
                        return false;
                    }
                    number = joined.alleles;
                    joined.appendAlleleOf(second, a);
                }
                numbers[a] = number;
            }
            return true;
        }

        private void uniteDepths() {
            joined.depths[0] = Math.max(first.depths[0], second.depths[0]);
            for (int a = 1; a < second.alleles; a++) {
                int number = numbers[a];
                if (number < first.alleles) {
                    int sum = first.depths[number] + second.depths[a];
                    joined.depths[number] = Math.min(sum, MOST_DEPTH);
                }
            }
        }

        private void uniteGenotypes() {
            for (int i = 0; i < 2 * SAMPLES; i++) {
                joined.genotypes[i] = unitedAllele(first.genotypes[i], second.genotypes[i]);
            }
            for (int sample = 0; sample < SAMPLES; sample++) {
                joined.phased[sample] = first.phased[sample] && second.phased[sample];
            }
        }

        private int unitedAllele(int ofFirst, int ofSecond) {
            if (ofFirst > 0 || ofSecond == MISSING) {
                return ofFirst;
            }
            return numbers[ofSecond];
        }

        /** A pair that a record lacks counts as 999 there: no likelihood is above it. */
        private void uniteLikelihoods() {
            joined.fillLikelihoods(MOST_LIKELIHOOD);
            for (int sample = 0; sample < SAMPLES; sample++) {
                int from = MOST_PAIRS * sample;
                System.arraycopy(first.likelihoods, from, joined.likelihoods, from, first.pairs());
                for (int k = 0; k < second.alleles; k++) {
                    for (int j = 0; j <= k; j++) {
                        int at = from + pairNumber(numbers[j], numbers[k]);
                        int value = second.likelihoods[from + pairNumber(j, k)];
                        joined.likelihoods[at] = Math.min(joined.likelihoods[at], value);
                    }
                }
            }
        }
    }

    /** A row of bytes, into which a record is written out and from which one is read. */
    private static final class ByteRow {
        private final int[] row;
        private int count;
        private int taken;

        ByteRow() {
            row = new int[MOST_BYTES];
            count = 0;
            taken = 0;
        }

        void put(int value) {
            if (count < MOST_BYTES) {
                row[count] = value;
                count++;
            }
        }

        private void putNumber(int value, int width) {
            put(value & 255);
            if (width == 2) {
                put(value >> 8);
            }
        }

        void putVariant(Variant variant) {
            count = 0;
            putNumber(variant.place, 2);
            putNumber(variant.quality, 2);
            put(variant.alleles);
            for (int a = 0; a < variant.alleles; a++) {
                putAllele(variant.packed[a], variant.lengths[a]);
            }
            putNumbers(variant.depths, 0, variant.alleles);
            for (int sample = 0; sample < SAMPLES; sample++) {
                put(GENOTYPE_MARK);
                int phase = variant.phased[sample] ? 1 : 0;
                put(2 * (variant.genotypes[2 * sample] + 1) + phase);
                put(2 * (variant.genotypes[2 * sample + 1] + 1) + phase);
                putNumbers(variant.likelihoods, MOST_PAIRS * sample, variant.pairs());
            }
        }

        private void putAllele(int packed, int length) {
            put(16 * length + ALLELE_MARK);
            for (int i = 0; i < length; i++) {
                put(LETTERS[baseOf(packed, length, i)]);
            }
        }

        private void putNumbers(int[] numbers, int from, int n) {
            int width = 1;
            for (int i = from; i < from + n; i++) {
                if (numbers[i] > MOST_NARROW) {
                    width = 2;
                }
            }
            put(16 * n + width);
            for (int i = from; i < from + n; i++) {
                putNumber(numbers[i], width);
            }
        }

        boolean isSame(ByteRow other) {
            if (count != other.count) {
                return false;
            }
            for (int i = 0; i < count; i++) {
                if (row[i] != other.row[i]) {
                    return false;
                }
            }
            return true;
        }

        /** The next byte; 0 when there is none, which shows when the record is written out again. */
        private int take() {
            if (taken >= count) {
                return 0;
            }
            taken++;
            return row[taken - 1];
        }

        private int takeNumber(int width) {
            int low = take();
            return width == 2 ? low + 256 * take() : low;
        }

        /** Whether the bytes give a sound record; bytes that no record is written as may pass. */
        boolean takeVariant(Variant variant, Reference reference) {
            taken = 0;
            variant.clear();
            variant.place = takeNumber(2);
            variant.quality = takeNumber(2);
            if (variant.quality > MOST_QUALITY || !takeAlleles(variant, reference)) {
                return false;
            }
            if (!takeNumbers(variant.depths, 0, variant.alleles, MOST_DEPTH)) {
                return false;
            }
            for (int sample = 0; sample < SAMPLES; sample++) {
                if (!takeGenotype(variant, sample)) {
                    return false;
                }
                int from = MOST_PAIRS * sample;
                if (!takeNumbers(variant.likelihoods, from, variant.pairs(), MOST_LIKELIHOOD)) {
                    return false;
                }
            }
            return true;
        }

        private boolean takeAlleles(Variant variant, Reference reference) {
            int alleles = take();
            if (alleles < 2 || alleles > MOST_ALLELES) {
                return false;
            }
            for (int a = 0; a < alleles; a++) {
                int length = take() >> 4;
                if (length < 1 || length > MOST_LENGTH) {
                    return false;
                }
                int packed = takeBases(length);
                if (variant.find(packed, length) >= 0) {
                    return false;
                }
                variant.appendAllele(packed, length);
            }
            int place = variant.place;
            int span = variant.lengths[0];
            return reference.covers(place, span) && reference.packed(place, span) == variant.packed[0];
        }

        /** A letter of no base passes as an A, which shows when the record is written out again. */
        private int takeBases(int n) {
            int packed = 0;
            for (int i = 0; i < n; i++) {
                int letter = take();
                int base = 0;
                for (int b = 1; b < LETTERS.length; b++) {
                    if (LETTERS[b] == letter) {
                        base = b;
                    }
                }
                packed = packed << 2 | base;
            }
            return packed;
        }

        private boolean takeGenotype(Variant variant, int sample) {
            take();
            int first = take();
            int second = take();
            variant.genotypes[2 * sample] = (first >> 1) - 1;
            variant.genotypes[2 * sample + 1] = (second >> 1) - 1;
            variant.phased[sample] = (first & 1) == 1;
            return variant.allowsInGenotype((first >> 1) - 1)
                    && variant.allowsInGenotype((second >> 1) - 1);
        }

        private boolean takeNumbers(int[] numbers, int from, int n, int most) {
            int width = take() & 15;
            for (int i = from; i < from + n; i++) {
                numbers[i] = takeNumber(width);
                if (numbers[i] > most) {
                    return false;
                }
            }
            return true;
        }
    }
}
