import java.util.ArrayList;
import java.util.HashSet;
import java.util.List;
import java.util.NoSuchElementException;
import java.util.TreeMap;

/** The document said again, with texts, lists and maps, for ModelTest to compare with. */
final class Model {
    /** A record, whose likelihoods are kept by the alleles' texts and not by numbers. */
    static final class Entry {
        int place;
        int quality;
        final List<String> alleles = new ArrayList<>();
        final List<Integer> depths = new ArrayList<>();
        final int[][] genotypes = {{-1, -1}, {-1, -1}};
        final boolean[] phased = new boolean[2];
        final List<TreeMap<String, Integer>> likelihoods =
                List.of(new TreeMap<>(), new TreeMap<>());

        int likelihood(int sample, String one, String other) {
            Integer value = likelihoods.get(sample).get(key(one, other));
            return value == null ? 0 : value;
        }

        static String key(String one, String other) {
            return one.compareTo(other) <= 0 ? one + "/" + other : other + "/" + one;
        }

        boolean has(String one, String other) {
            return alleles.contains(one) && alleles.contains(other);
        }

        int end() {
            return place + alleles.get(0).length() - 1;
        }
    }

    String reference = "";
    Entry draft;
    List<Entry> list = new ArrayList<>();
    List<Integer> typed = new ArrayList<>();

    private static void require(boolean good) {
        if (!good) {
            throw new IllegalArgumentException();
        }
    }

    private static void requireState(boolean good) {
        if (!good) {
            throw new IllegalStateException();
        }
    }

    private static String text(long bases, int n) {
        StringBuilder text = new StringBuilder();
        for (int i = 0; i < n; i++) {
            text.insert(0, "ACGT".charAt((int) (bases & 3)));
            bases = bases >> 2;
        }
        return text.toString();
    }

    private Entry entry(int record) {
        require(record >= 0 && record < list.size());
        return list.get(record);
    }

    private int put(Entry entry) {
        int at = list.size();
        while (at > 0 && list.get(at - 1).place > entry.place) {
            at--;
        }
        list.add(at, entry);
        return at;
    }

    int reference(long bases, int n) {
        require(n >= 1 && n <= 16);
        requireState(reference.length() + n <= 160 && list.isEmpty() && draft == null);
        reference = reference + text(bases, n);
        return reference.length();
    }

    void draft(int place, int length) {
        require(length >= 1 && length <= 8);
        require(place >= 1 && (long) place + length - 1 <= reference.length());
        draft = new Entry();
        draft.place = place;
        draft.alleles.add(reference.substring(place - 1, place - 1 + length));
        draft.depths.add(0);
    }

    int allele(long bases, int n) {
        require(n >= 1 && n <= 8);
        requireState(draft != null && draft.alleles.size() < 4);
        requireState(!draft.alleles.contains(text(bases, n)));
        draft.alleles.add(text(bases, n));
        draft.depths.add(0);
        return draft.alleles.size() - 1;
    }

    void depth(int allele, int depth, int quality) {
        require(draft != null && allele >= 0 && allele < draft.alleles.size());
        require(depth >= 0 && depth <= 9999 && quality >= 0 && quality <= 8000);
        draft.depths.set(allele, depth);
        draft.quality = quality;
    }

    void genotype(int sample, int first, int second, boolean phased) {
        require(draft != null && (sample == 0 || sample == 1));
        int alleles = draft.alleles.size();
        require(first >= -1 && first < alleles && second >= -1 && second < alleles);
        draft.genotypes[sample] = new int[] {first, second};
        draft.phased[sample] = phased;
    }

    void likelihood(int sample, int number, int value) {
        require(draft != null && (sample == 0 || sample == 1) && value >= 0 && value <= 999);
        List<String> pairs = pairs(draft.alleles);
        require(number >= 0 && number < pairs.size());
        draft.likelihoods.get(sample).put(pairs.get(number), value);
    }

    /** The keys of all pairs in the order of their numbers. */
    private static List<String> pairs(List<String> alleles) {
        List<String> pairs = new ArrayList<>();
        for (int k = 0; k < alleles.size(); k++) {
            for (int j = 0; j <= k; j++) {
                pairs.add(Entry.key(alleles.get(j), alleles.get(k)));
            }
        }
        return pairs;
    }

    int add() {
        requireState(draft != null && draft.alleles.size() > 1 && list.size() < 24);
        Entry entry = draft;
        draft = null;
        return put(entry);
    }

    void remove(int record) {
        entry(record);
        list.remove(record);
    }

    int normalise(int record) {
        Entry entry = entry(record);
        list.remove(record);
        List<String> before = new ArrayList<>(entry.alleles);
        boolean going = true;
        while (going) {
            going = trimEnd(entry) || trimFront(entry);
        }
        for (TreeMap<String, Integer> values : entry.likelihoods) {
            TreeMap<String, Integer> old = new TreeMap<>(values);
            values.clear();
            for (int i = 0; i < pairs(before).size(); i++) {
                values.put(pairs(entry.alleles).get(i), old.getOrDefault(pairs(before).get(i), 0));
            }
        }
        return put(entry);
    }

    private boolean trimEnd(Entry entry) {
        boolean two = true;
        HashSet<Character> last = new HashSet<>();
        for (String allele : entry.alleles) {
            two = two && allele.length() >= 2;
            last.add(allele.charAt(allele.length() - 1));
        }
        if (last.size() > 1 || !(two || entry.place > 1)) {
            return false;
        }
        entry.alleles.replaceAll(allele -> allele.substring(0, allele.length() - 1));
        if (entry.alleles.contains("")) {
            char before = reference.charAt(entry.place - 2);
            entry.alleles.replaceAll(allele -> before + allele);
            entry.place--;
        }
        return true;
    }

    private static boolean trimFront(Entry entry) {
        HashSet<Character> first = new HashSet<>();
        for (String allele : entry.alleles) {
            if (allele.length() < 2) {
                return false;
            }
            first.add(allele.charAt(0));
        }
        if (first.size() > 1) {
            return false;
        }
        entry.alleles.replaceAll(allele -> allele.substring(1));
        entry.place++;
        return true;
    }

    int split(int record) {
        Entry entry = entry(record);
        int n = entry.alleles.size() - 1;
        requireState(n > 1 && list.size() - 1 + n <= 24);
        list.remove(record);
        for (int a = 1; a <= n; a++) {
            Entry part = new Entry();
            part.place = entry.place;
            part.quality = entry.quality;
            part.alleles.addAll(List.of(entry.alleles.get(0), entry.alleles.get(a)));
            part.depths.addAll(List.of(entry.depths.get(0), entry.depths.get(a)));
            for (int sample = 0; sample < 2; sample++) {
                part.phased[sample] = entry.phased[sample];
                for (int i = 0; i < 2; i++) {
                    int allele = entry.genotypes[sample][i];
                    part.genotypes[sample][i] = allele == a ? 1 : Math.min(allele, 0);
                }
                part.likelihoods.get(sample).putAll(entry.likelihoods.get(sample));
            }
            list.add(record + a - 1, part);
        }
        return n;
    }

    void join(int record) {
        Entry first = entry(record);
        if (record + 1 == list.size() || list.get(record + 1).place != first.place) {
            throw new NoSuchElementException();
        }
        Entry second = list.get(record + 1);
        String one = first.alleles.get(0);
        String other = second.alleles.get(0);
        Entry longFirst = lengthened(first, other.length() > one.length() ? other.substring(one.length()) : "");
        Entry longSecond = lengthened(second, one.length() > other.length() ? one.substring(other.length()) : "");
        Entry joined = joined(longFirst, longSecond);
        requireState(joined.alleles.size() <= 4);
        for (String allele : joined.alleles) {
            requireState(allele.length() <= 8);
        }
        list.remove(record);
        list.set(record, joined);
    }

    private static Entry lengthened(Entry entry, String tail) {
        Entry longer = new Entry();
        longer.place = entry.place;
        longer.quality = entry.quality;
        for (String allele : entry.alleles) {
            longer.alleles.add(allele + tail);
        }
        longer.depths.addAll(entry.depths);
        for (int sample = 0; sample < 2; sample++) {
            longer.genotypes[sample] = entry.genotypes[sample].clone();
            longer.phased[sample] = entry.phased[sample];
            for (int i = 0; i < pairs(entry.alleles).size(); i++) {
                longer.likelihoods.get(sample).put(pairs(longer.alleles).get(i),
                        entry.likelihoods.get(sample).getOrDefault(pairs(entry.alleles).get(i), 0));
            }
        }
        return longer;
    }

    private static Entry joined(Entry first, Entry second) {
        Entry joined = new Entry();
        joined.place = first.place;
        joined.quality = Math.max(first.quality, second.quality);
        joined.alleles.addAll(first.alleles);
        for (String allele : second.alleles) {
            if (!joined.alleles.contains(allele)) {
                joined.alleles.add(allele);
            }
        }
        for (String allele : joined.alleles) {
            int here = first.alleles.indexOf(allele);
            int there = second.alleles.indexOf(allele);
            int a = here < 0 ? 0 : first.depths.get(here);
            int b = there < 0 ? 0 : second.depths.get(there);
            joined.depths.add(here == 0 ? Math.max(a, b) : Math.min(a + b, 9999));
        }
        for (int sample = 0; sample < 2; sample++) {
            joined.phased[sample] = first.phased[sample] && second.phased[sample];
            for (int i = 0; i < 2; i++) {
                int a = first.genotypes[sample][i];
                int b = second.genotypes[sample][i];
                int c = b < 0 ? -1 : joined.alleles.indexOf(second.alleles.get(b));
                joined.genotypes[sample][i] = a == -1 && b == -1 ? -1 : a > 0 ? a : b != -1 ? c : 0;
            }
            joinLikelihoods(joined, first, second, sample);
        }
        return joined;
    }

    private static void joinLikelihoods(Entry joined, Entry first, Entry second, int sample) {
        for (String one : joined.alleles) {
            for (String other : joined.alleles) {
                int value = 999;
                if (first.has(one, other) && second.has(one, other)) {
                    value = Math.min(first.likelihood(sample, one, other),
                            second.likelihood(sample, one, other));
                } else if (first.has(one, other)) {
                    value = first.likelihood(sample, one, other);
                } else if (second.has(one, other)) {
                    value = second.likelihood(sample, one, other);
                }
                joined.likelihoods.get(sample).put(Entry.key(one, other), value);
            }
        }
    }

    static List<Integer> bytes(Entry entry) {
        List<Integer> bytes = new ArrayList<>(List.of(entry.place % 256, entry.place / 256,
                entry.quality % 256, entry.quality / 256, entry.alleles.size()));
        for (String allele : entry.alleles) {
            bytes.add(16 * allele.length() + 7);
            for (char c : allele.toCharArray()) {
                bytes.add((int) c);
            }
        }
        bytes.addAll(row(entry.depths));
        for (int sample = 0; sample < 2; sample++) {
            bytes.add(33);
            for (int allele : entry.genotypes[sample]) {
                bytes.add(2 * (allele + 1) + (entry.phased[sample] ? 1 : 0));
            }
            List<Integer> values = new ArrayList<>();
            for (String pair : pairs(entry.alleles)) {
                values.add(entry.likelihoods.get(sample).getOrDefault(pair, 0));
            }
            bytes.addAll(row(values));
        }
        return bytes;
    }

    private static List<Integer> row(List<Integer> values) {
        boolean narrow = values.stream().allMatch(value -> value <= 127);
        List<Integer> bytes = new ArrayList<>();
        bytes.add(16 * values.size() + (narrow ? 1 : 2));
        for (int value : values) {
            bytes.add(value % 256);
            if (!narrow) {
                bytes.add(value / 256);
            }
        }
        return bytes;
    }

    int written(int record, int i) {
        List<Integer> bytes = bytes(entry(record));
        if (i < -1 || i >= bytes.size()) {
            throw new IndexOutOfBoundsException();
        }
        return i == -1 ? bytes.size() : bytes.get(i);
    }

    void type(long bytes, int n) {
        require(n >= 1 && n <= 8);
        requireState(typed.size() + n <= 120);
        int from = typed.size();
        for (int i = 0; i < n; i++) {
            typed.add(from, (int) (bytes & 255));
            bytes = bytes >> 8;
        }
    }

    int read() {
        List<Integer> bytes = typed;
        typed = new ArrayList<>();
        requireState(list.size() < 24);
        Entry entry;
        try {
            entry = parsed(new ArrayList<>(bytes));
        } catch (IndexOutOfBoundsException e) {
            throw new IllegalArgumentException();
        }
        return put(entry);
    }

    private Entry parsed(List<Integer> bytes) {
        Entry entry = new Entry();
        entry.place = bytes.remove(0) + 256 * bytes.remove(0);
        entry.quality = bytes.remove(0) + 256 * bytes.remove(0);
        require(entry.quality <= 8000);
        int alleles = bytes.remove(0);
        require(alleles >= 2 && alleles <= 4);
        for (int a = 0; a < alleles; a++) {
            int mark = bytes.remove(0);
            require(mark % 16 == 7 && mark / 16 >= 1 && mark / 16 <= 8);
            StringBuilder allele = new StringBuilder();
            for (int i = 0; i < mark / 16; i++) {
                int letter = bytes.remove(0);
                require("ACGT".indexOf(letter) >= 0);
                allele.append((char) letter);
            }
            require(!entry.alleles.contains(allele.toString()));
            entry.alleles.add(allele.toString());
        }
        require(entry.place >= 1 && entry.end() <= reference.length());
        require(reference.startsWith(entry.alleles.get(0), entry.place - 1));
        entry.depths.addAll(parsedRow(bytes, alleles, 9999));
        for (int sample = 0; sample < 2; sample++) {
            require(bytes.remove(0) == 33);
            int first = bytes.remove(0);
            int second = bytes.remove(0);
            require(first % 2 == second % 2 && first / 2 <= alleles && second / 2 <= alleles);
            entry.genotypes[sample] = new int[] {first / 2 - 1, second / 2 - 1};
            entry.phased[sample] = first % 2 == 1;
            List<String> pairs = pairs(entry.alleles);
            List<Integer> values = parsedRow(bytes, pairs.size(), 999);
            for (int i = 0; i < pairs.size(); i++) {
                entry.likelihoods.get(sample).put(pairs.get(i), values.get(i));
            }
        }
        require(bytes.isEmpty());
        return entry;
    }

    private static List<Integer> parsedRow(List<Integer> bytes, int n, int most) {
        int mark = bytes.remove(0);
        require(mark / 16 == n && (mark % 16 == 1 || mark % 16 == 2));
        List<Integer> values = new ArrayList<>();
        int greatest = 0;
        for (int i = 0; i < n; i++) {
            int value = bytes.remove(0) + (mark % 16 == 2 ? 256 * bytes.remove(0) : 0);
            greatest = Math.max(greatest, value);
            values.add(value);
        }
        require(greatest <= most && mark % 16 == (greatest > 127 ? 2 : 1));
        return values;
    }

    int records() {
        return list.size();
    }

    int about(int record, int what) {
        Entry entry = entry(record);
        require(what >= 0 && what <= 4);
        return List.of(entry.place, entry.alleles.size(), entry.alleles.get(0).length(), entry.quality,
                bin(entry.place, entry.end())).get(what);
    }

    private static int bin(int begin, int end) {
        int bin = 0;
        int next = 1;
        for (int size = 128; size >= 8; size = size / 4) {
            if (begin / size == end / size) {
                bin = next + begin / size;
            }
            next += 256 / size;
        }
        return bin;
    }

    int base(int record, int allele, int i) {
        Entry entry = entry(record);
        require(allele >= 0 && allele < entry.alleles.size());
        String text = entry.alleles.get(allele);
        if (i < -1 || i >= text.length()) {
            throw new IndexOutOfBoundsException();
        }
        return i == -1 ? text.length() : "ACGT".indexOf(text.charAt(i));
    }

    private List<Entry> region(int begin, int end) {
        require(begin >= 1 && begin <= end && end <= 255);
        List<Entry> found = new ArrayList<>();
        for (Entry entry : list) {
            boolean spans = false;
            for (int place = entry.place; place <= entry.end(); place++) {
                spans = spans || place >= begin && place <= end;
            }
            if (spans) {
                found.add(entry);
            }
        }
        return found;
    }

    int found(int begin, int end) {
        return region(begin, end).size();
    }

    float mean(int begin, int end) {
        List<Entry> found = region(begin, end);
        if (found.isEmpty()) {
            throw new NoSuchElementException();
        }
        float sum = 0;
        for (Entry entry : found) {
            sum += entry.quality * 0.125f;
        }
        return sum / found.size();
    }
}
