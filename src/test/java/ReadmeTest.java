import java.io.IOException;
import java.nio.file.Files;
import java.nio.file.Path;
import java.util.ArrayList;
import java.util.List;
import java.util.NoSuchElementException;

/** The lines that README.md shows under "Use": that they are those below, and what they answer. */
public final class ReadmeTest {
    private static final Path README = Path.of("README.md");
    private static final Path SOURCE = Path.of("src/test/java/ReadmeTest.java");

    private ReadmeTest() {
    }

    public static void main(String[] args) throws IOException {
        Check.due("the lines of README.md", between(README, "```java", "```"),
                between(SOURCE, "// What README.md shows begins.", "// What README.md shows ends."));
        use();
        Check.end();
    }

    /** The lines between the first line that is one text and the next that is another. */
    private static String between(Path file, String begin, String end) throws IOException {
        List<String> lines = new ArrayList<>();
        boolean inside = false;
        for (String line : Files.readAllLines(file)) {
            String text = line.strip();
            if (inside && text.equals(end)) {
                return String.join("\n", lines);
            }
            if (inside) {
                lines.add(text);
            }
            inside = inside || text.equals(begin);
        }
        Check.complain(file + " has no lines between " + begin + " and " + end);
        return "";
    }

    private static void use() {
        // What README.md shows begins.
        VariantKit kit = new VariantKit();
        int bases = kit.reference(0b10_10_10_01_00_01_00_01_00L, 9);  // 9: GGGCACACA, the first base highest

        kit.draft(6, 3);                                // a draft at place 6, whose REF is CAC
        int deletion = kit.allele(0b01L, 1);            // 1: the alternative C
        int change = kit.allele(0b01_11_01L, 3);        // 2: the alternative CTC
        kit.depth(deletion, 12, 400);                   // depth 12 of allele 1, quality 50 (400 eighths)
        kit.genotype(0, 0, deletion, true);             // sample 0 has 0|1
        kit.likelihood(0, 1, 35);                       // sample 0: 35 for the pair of alleles 0 and 1
        int record = kit.add();                         // 0: the draft is now a record of the list

        int parts = kit.split(record);                  // 2: records 0 (CAC, C) and 1 (CAC, CTC)
        kit.join(record);                               // one record of three alleles again
        parts = kit.split(record);                      // 2: and two records once more
        int first = kit.normalise(0);                   // 0: now GCA and G, at place 3
        int second = kit.normalise(1);                  // 1: now A and T, at place 7

        int records = kit.records();                    // 2
        int place = kit.about(first, 0);                // 3
        int length = kit.base(first, 0, -1);            // 3: the REF has three bases
        int base = kit.base(first, 0, 1);               // 1: its second one is a C
        int here = kit.found(4, 4);                     // 1: record 0 spans places 3 to 5
        float quality = kit.mean(1, 9);                 // 50.0

        VariantKit copy = new VariantKit();
        copy.reference(0b10_10_10_01_00_01_00_01_00L, 9);
        int bytes = kit.written(first, -1);             // 28: so many bytes are the record, written out
        for (int i = 0; i < bytes; i++) {
            copy.type(kit.written(first, i), 1);
        }
        int read = copy.read();                         // 0: the same record, in the other object

        kit.remove(second);
        String outcome = "joined";
        try {
            kit.join(first);
        } catch (NoSuchElementException e) {
            outcome = "there is no next record with this place";
        }
        // What README.md shows ends.
        Check.due("bases", bases, 9);
        Check.due("deletion", deletion, 1);
        Check.due("change", change, 2);
        Check.due("record", record, 0);
        Check.due("parts", parts, 2);
        Check.due("first", first, 0);
        Check.due("second", second, 1);
        Check.due("records", records, 2);
        Check.due("place", place, 3);
        Check.due("length", length, 3);
        Check.due("base", base, 1);
        Check.due("here", here, 1);
        Check.due("quality", quality, 50.0);
        Check.due("bytes", bytes, 28);
        Check.due("read", read, 0);
        Check.due("outcome", outcome, "there is no next record with this place");
        Check.due("the record", Check.shape(kit, 0), "3 GCA G");
        Check.due("the copy", Check.bytes(copy, 0), Check.bytes(kit, 0));
    }
}
