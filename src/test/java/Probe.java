/**
 * All that the calls of the face can show of an object. As asking for some of it changes the object,
 * and as an object is good for 512 calls, each piece is asked of an object of its own, made anew.
 */
final class Probe {
    /** The calls that bring a new object into a state. */
    interface Recipe {
        void make(VariantKit kit);
    }

    /** The bytes of a record at place 3, on any reference that has a G there. */
    static final String PLAIN = "3 0 80 0 2 23 71 23 65 33 5 6 33 2 4 49 1 2 3 33 1 3 49 0 0 0";
    private static final int MOST_BYTES = 120;
    private static final int MOST_RECORDS = 24;
    private static final int MOST_LENGTH = 8;

    private Probe() {
    }

    static String everything(Recipe recipe) {
        return list(recipe) + "found: " + regions(recipe) + "\ndraft: " + draft(recipe)
                + "\nbytes: " + typed(recipe) + "\nreference: " + reference(recipe) + "\n";
    }

    static VariantKit made(Recipe recipe) {
        VariantKit kit = new VariantKit();
        recipe.make(kit);
        return kit;
    }

    /** Where the list is full, the first record makes room for the one that shows the rest. */
    private static VariantKit madeWithRoom(Recipe recipe) {
        VariantKit kit = made(recipe);
        if (kit.records() == MOST_RECORDS) {
            kit.remove(0);
        }
        return kit;
    }

    /** Every record, one a line: its place, alleles, span, quality and bin, and its bytes. */
    static String list(Recipe recipe) {
        StringBuilder text = new StringBuilder();
        int records = made(recipe).records();
        for (int record = 0; record < records; record++) {
            VariantKit kit = made(recipe);
            for (int what = 0; what < 5; what++) {
                text.append(kit.about(record, what)).append(' ');
            }
            text.append("- ").append(Check.bytes(kit, record)).append('\n');
        }
        return text.toString();
    }

    private static String regions(Recipe recipe) {
        VariantKit kit = made(recipe);
        int found = kit.found(1, 255);
        return found == 0 ? "none" : found + ", mean " + kit.mean(1, 255);
    }

    private static String draft(Recipe recipe) {
        VariantKit kit = madeWithRoom(recipe);
        if (Check.isDone(kit::add)) {
            VariantKit again = madeWithRoom(recipe);
            return Check.bytes(again, again.add());
        }
        // A draft of one allele can't be added; that it takes another one shows that it is there.
        for (int base = 0; base < 4; base++) {
            long bases = base;
            if (Check.isDone(() -> kit.allele(bases, 1))) {
                return "one allele, then " + Check.bytes(kit, kit.add());
            }
        }
        return "none";
    }

    /** How many bytes there are, and what is read when the rest of PLAIN comes behind them. */
    private static String typed(Recipe recipe) {
        VariantKit filled = made(recipe);
        int typed = MOST_BYTES;
        while (typed >= 0 && Check.isDone(() -> filled.type(0, 1))) {
            typed--;
        }
        VariantKit kit = madeWithRoom(recipe);
        String[] plain = PLAIN.split(" ");
        for (int i = typed; i >= 0 && i < plain.length; i++) {
            kit.type(Long.parseLong(plain[i]), 1);
        }
        String text = typed + ", then ";
        try {
            return text + Check.bytes(kit, kit.read());
        } catch (IllegalArgumentException e) {
            return text + "no record";
        }
    }

    private static String reference(Recipe recipe) {
        VariantKit grown = made(recipe);
        String text = Check.isDone(() -> grown.reference(0, 1)) ? "open " : "closed ";
        VariantKit drafted = made(recipe);
        int length = 0;
        while (length <= 160 && hasPlace(drafted, length + 1)) {
            length++;
        }
        VariantKit kit = madeWithRoom(recipe);
        StringBuilder bases = new StringBuilder(text);
        for (int place = 1; place <= length; place += MOST_LENGTH) {
            bases.append(piece(kit, place, Math.min(MOST_LENGTH, length - place + 1)));
        }
        return bases.toString();
    }

    private static boolean hasPlace(VariantKit kit, int place) {
        return Check.isDone(() -> kit.draft(place, 1));
    }

    private static String piece(VariantKit kit, int place, int length) {
        kit.draft(place, length);
        if (!Check.isDone(() -> kit.allele(0, 1))) {
            kit.allele(1, 1);
        }
        int record = kit.add();
        String piece = Check.allele(kit, record, 0);
        kit.remove(record);
        return piece;
    }
}
