import java.util.ArrayList;
import java.util.List;
import java.util.Random;
import java.util.TreeMap;

/** Random runs of calls, on VariantKit and on Model, whose answers and exceptions must be the same. */
public final class ModelTest {
    private static final int RUNS = 2400;
    // An object is good for 512 calls: these, at most 99 of the last step, and 99 that show a record.
    private static final int CALLS = 300;

    interface Answer {
        double get();
    }

    private final Random random;
    private final List<Answer> calls = new ArrayList<>();
    private VariantKit kit = new VariantKit();
    private final Model model = new Model();
    private final TreeMap<String, Integer> seen;
    private String last = "";

    private ModelTest(int seed, TreeMap<String, Integer> seen) {
        random = new Random(seed);
        this.seen = seen;
    }

    public static void main(String[] args) {
        TreeMap<String, Integer> seen = new TreeMap<>();
        // After a first wrong answer the two go on from different states.
        for (int seed = 0; seed < RUNS && Check.allAsDue(); seed++) {
            new ModelTest(seed, seen).run("seed " + seed + ": ");
        }
        if (Check.allAsDue()) {
            everyOutcomeWasSeen(seen);
        }
        Check.end();
    }

    /** The runs prove little about what never came up in them. */
    private static void everyOutcomeWasSeen(TreeMap<String, Integer> seen) {
        String[] awaited = {"reference A", "reference S", "draft A", "allele A", "allele S", "depth A",
            "genotype A", "likelihood A", "add S", "remove A", "normalise A", "split A", "split S",
            "join A", "join N", "join S", "written A", "written B", "type A", "type S", "read A",
            "read S", "about A", "base A", "base B", "found A", "mean A", "mean N", "reference .",
            "draft .", "allele .", "depth .", "genotype .", "likelihood .", "add .", "remove .",
            "normalise .", "split .", "join .", "written .", "type .", "read .", "records .", "about .",
            "base .", "found .", "mean ."};
        for (String outcome : awaited) {
            if (seen.getOrDefault(outcome, 0) < 20) {
                Check.complain("outcome '" + outcome + "' came up " + seen.getOrDefault(outcome, 0) + " times");
            }
        }
    }

    private void run(String name) {
        int pieces = random.nextInt(12);
        int letters = 1 + random.nextInt(4);
        for (int i = 0; i < pieces; i++) {
            long bases = repetitive(letters);
            int n = random.nextInt(8) == 0 ? random.nextInt(19) - 1 : 16;
            same(name, "reference", () -> kit.reference(bases, n), () -> model.reference(bases, n));
        }
        // Without this, few lists would be full before the calls are used up.
        for (int i = random.nextInt(3) == 0 ? random.nextInt(30) : 0; i > 0; i--) {
            drafting(name, 0);
        }
        while (calls.size() < CALLS && Check.allAsDue()) {
            step(name);
            if (random.nextInt(16) == 0 && model.records() > 0) {
                sameRecord(name, random.nextInt(model.records()));
            }
        }
        for (int record = 0; record < model.records(); record++) {
            sameRecord(name, record);
        }
    }

    private long repetitive(int letters) {
        long bases = 0;
        for (int i = 0; i < 16; i++) {
            bases = bases << 2 | random.nextInt(letters);
        }
        return random.nextInt(3) == 0 ? bases & 15 : random.nextBoolean() ? bases : bases | -1L << 32;
    }

    private static String outcome(Answer answer, double[] value) {
        try {
            value[0] = answer.get();
            return ".";
        } catch (IllegalArgumentException e) {
            return "A";
        } catch (IllegalStateException e) {
            return "S";
        } catch (IndexOutOfBoundsException e) {
            return "B";
        } catch (java.util.NoSuchElementException e) {
            return "N";
        }
    }

    private void same(String name, String call, Answer ofKit, Answer ofModel) {
        double[] got = {0};
        double[] want = {0};
        calls.add(ofKit);
        String gotOutcome = outcome(ofKit, got);
        String wantOutcome = outcome(ofModel, want);
        last = call;
        seen.merge(call + " " + wantOutcome, 1, Integer::sum);
        Check.due(name + call + " outcome", gotOutcome, wantOutcome);
        Check.due(name + call, got[0], want[0]);
    }

    private static Answer none(Check.Call call) {
        return () -> {
            call.run();
            return 0;
        };
    }

    /** Compares a whole record, on another object after the same calls: that costs this one none. */
    private void sameRecord(String name, int record) {
        VariantKit used = kit;
        kit = new VariantKit();
        for (Answer call : calls) {
            outcome(call, new double[1]);
        }
        String want = text(Model.bytes(model.list.get(record)));
        Check.due(name + "record " + record + " after " + last, Check.bytes(kit, record), want);
        kit = used;
    }

    private static String text(List<Integer> bytes) {
        return bytes.toString().replaceAll("[\\[\\],]", "");
    }

    private int near(int most) {
        int wild = random.nextInt(60);
        if (wild == 0) {
            return random.nextInt();
        }
        return wild == 1 ? -1 - random.nextInt(2) : wild == 2 ? most + 1 : random.nextInt(most + 1);
    }

    private int record() {
        return near(Math.max(0, model.records() - 1));
    }

    private void step(String name) {
        int kind = random.nextInt(20);
        if (kind < 5) {
            drafting(name, 12);
        } else if (kind < 8) {
            changing(name);
        } else if (kind < 10) {
            reading(name);
        } else {
            asking(name);
        }
    }

    private void drafting(String name, int mostDetails) {
        // Few places, so that many records share one.
        int place = random.nextBoolean() ? near(Math.min(6, model.reference.length())) : near(160);
        int length = 1 + near(7);
        same(name, "draft", none(() -> kit.draft(place, length)), none(() -> model.draft(place, length)));
        int alleles = 1 + random.nextInt(4);
        for (int a = 0; a < alleles; a++) {
            long bases = alternative();
            int n = random.nextInt(40) == 0 ? near(10) : 1 + random.nextInt(random.nextBoolean() ? 3 : 8);
            same(name, "allele", () -> kit.allele(bases, n), () -> model.allele(bases, n));
        }
        for (int i = random.nextInt(mostDetails + 1); i > 0; i--) {
            details(name);
        }
        if (random.nextInt(6) > 0) {
            same(name, "add", () -> kit.add(), model::add);
        }
    }

    /** Often a piece of the reference, so that alleles have ends and begins in common. */
    private long alternative() {
        if (model.reference.length() < 8 || random.nextInt(3) == 0) {
            return random.nextLong();
        }
        int from = random.nextInt(model.reference.length() - 7);
        return Check.packed(model.reference.substring(from, from + 8));
    }

    private void details(String name) {
        int sample = near(1);
        switch (random.nextInt(3)) {
            case 0:
                int allele = near(3);
                int depth = random.nextBoolean() ? near(9999) : near(127);
                int quality = near(8000);
                same(name, "depth", none(() -> kit.depth(allele, depth, quality)),
                        none(() -> model.depth(allele, depth, quality)));
                break;
            case 1:
                int first = near(4) - 1;
                int second = near(4) - 1;
                boolean phased = random.nextBoolean();
                same(name, "genotype", none(() -> kit.genotype(sample, first, second, phased)),
                        none(() -> model.genotype(sample, first, second, phased)));
                break;
            default:
                int number = near(9);
                int value = random.nextBoolean() ? near(999) : near(127);
                same(name, "likelihood", none(() -> kit.likelihood(sample, number, value)),
                        none(() -> model.likelihood(sample, number, value)));
        }
    }

    private void changing(String name) {
        int record = record();
        switch (random.nextInt(7)) {
            case 0:
                same(name, "remove", none(() -> kit.remove(record)), none(() -> model.remove(record)));
                break;
            case 1:
            case 2:
                same(name, "normalise", () -> kit.normalise(record), () -> model.normalise(record));
                break;
            case 3:
                same(name, "split", () -> kit.split(record), () -> model.split(record));
                break;
            case 4:
                emptyAndGrow(name);
                break;
            default:
                same(name, "join", none(() -> kit.join(record)), none(() -> model.join(record)));
        }
    }

    private void emptyAndGrow(String name) {
        if (random.nextInt(12) == 0) {
            for (int i = model.records(); i > 0; i--) {
                same(name, "remove", none(() -> kit.remove(0)), none(() -> model.remove(0)));
            }
        }
        long bases = random.nextLong();
        int n = 1 + near(15);
        same(name, "reference", () -> kit.reference(bases, n), () -> model.reference(bases, n));
    }

    private void reading(String name) {
        if (random.nextInt(8) > 0 && model.records() > 0) {
            List<Integer> bytes = Model.bytes(model.list.get(random.nextInt(model.records())));
            for (int i = random.nextInt(3); i > 0; i--) {
                int at = random.nextInt(bytes.size());
                bytes.set(at, random.nextBoolean() ? random.nextInt(256) : bytes.get(at) ^ 1 << random.nextInt(8));
            }
            if (random.nextInt(10) == 0) {
                bytes.remove(random.nextInt(bytes.size()));
            }
            typeAll(name, bytes);
        } else {
            long bytes = random.nextLong();
            int n = near(9);
            same(name, "type", none(() -> kit.type(bytes, n)), none(() -> model.type(bytes, n)));
        }
        if (random.nextInt(9) > 0) {
            same(name, "read", () -> kit.read(), model::read);
        }
    }

    private void typeAll(String name, List<Integer> bytes) {
        int at = 0;
        while (at < bytes.size()) {
            int n = Math.min(1 + random.nextInt(8), bytes.size() - at);
            long word = n < 8 ? random.nextLong() : 0;
            for (int i = 0; i < n; i++) {
                word = word << 8 | bytes.get(at + i);
            }
            long typed = word;
            same(name, "type", none(() -> kit.type(typed, n)), none(() -> model.type(typed, n)));
            at += n;
        }
    }

    private void asking(String name) {
        int record = record();
        int a = near(5);
        int i = near(9) - 1;
        int begin = 1 + near(random.nextBoolean() ? 20 : 170);
        int end = random.nextInt(40) == 0 ? near(260) : begin + random.nextInt(30);
        switch (random.nextInt(6)) {
            case 0:
                int at = near(100) - 1;
                same(name, "written", () -> kit.written(record, at), () -> model.written(record, at));
                break;
            case 1:
                same(name, "about", () -> kit.about(record, a), () -> model.about(record, a));
                break;
            case 2:
                same(name, "base", () -> kit.base(record, a, i), () -> model.base(record, a, i));
                break;
            case 3:
                same(name, "found", () -> kit.found(begin, end), () -> model.found(begin, end));
                break;
            case 4:
                same(name, "mean", () -> kit.mean(begin, end), () -> model.mean(begin, end));
                break;
            default:
                same(name, "records", () -> kit.records(), model::records);
        }
    }
}
