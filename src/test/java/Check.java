import java.util.ArrayList;
import java.util.List;

/** What the tests share: comparing answers, awaiting exceptions, and short ways to make records. */
final class Check {
    interface Call {
        void run();
    }

    private static final int MOST_PRINTED = 40;
    private static int wrong = 0;

    private Check() {
    }

    static void due(String what, double got, double want) {
        if (got != want) {
            complain(what + " answered " + got + ", due is " + want);
        }
    }

    static void due(String what, String got, String want) {
        if (!got.equals(want)) {
            complain(what + " answered " + got + ", due is " + want);
        }
    }

    static void complain(String text) {
        wrong++;
        if (wrong <= MOST_PRINTED) {
            System.out.println(text);
        }
    }

    static void illegalArgument(String what, Call call) {
        throwing(what, IllegalArgumentException.class, call);
    }

    static void illegalState(String what, Call call) {
        throwing(what, IllegalStateException.class, call);
    }

    static void noSuchElement(String what, Call call) {
        throwing(what, java.util.NoSuchElementException.class, call);
    }

    static void outOfBounds(String what, Call call) {
        throwing(what, IndexOutOfBoundsException.class, call);
    }

    static void throwing(String what, Class<?> want, Call call) {
        String got = "nothing";
        try {
            call.run();
        } catch (RuntimeException e) {
            got = e.getClass().getName();
        }
        if (!got.equals(want.getName())) {
            complain(what + " threw " + got + ", due is " + want.getName());
        }
    }

    /** Whether a call ends without an exception. */
    static boolean isDone(Call call) {
        try {
            call.run();
            return true;
        } catch (IllegalArgumentException | IllegalStateException e) {
            return false;
        }
    }

    static boolean allAsDue() {
        return wrong == 0;
    }

    /** Ends the test: with exit code 1 when an answer was wrong. */
    static void end() {
        if (wrong != 0) {
            System.out.println(wrong + " answers are not as due");
            System.exit(1);
        }
    }

    /** The bases of a text such as ACGT, packed as the face takes them. */
    static long packed(String bases) {
        long packed = 0;
        for (char c : bases.toCharArray()) {
            packed = packed * 4 + "ACGT".indexOf(c);
        }
        return packed;
    }

    /** A new object with a reference. */
    static VariantKit on(String bases) {
        VariantKit kit = new VariantKit();
        on(kit, bases);
        return kit;
    }

    /** Appends bases of a text to an object's reference. */
    static void on(VariantKit kit, String bases) {
        for (int i = 0; i < bases.length(); i += 16) {
            String piece = bases.substring(i, Math.min(i + 16, bases.length()));
            kit.reference(packed(piece), piece.length());
        }
    }

    /** Drafts a record with these alternatives, without adding it. */
    static void draft(VariantKit kit, int place, int length, String... alternatives) {
        kit.draft(place, length);
        for (String alternative : alternatives) {
            kit.allele(packed(alternative), alternative.length());
        }
    }

    /** Adds a record with these alternatives: its number. */
    static int put(VariantKit kit, int place, int length, String... alternatives) {
        draft(kit, place, length, alternatives);
        return kit.add();
    }

    /** Fills the list with 24 records of one place, with the place's base left out of the alternatives. */
    static void fill(VariantKit kit, int place, String alternative) {
        while (kit.records() < 24) {
            put(kit, place, 1, alternative);
        }
    }

    static String allele(VariantKit kit, int record, int allele) {
        StringBuilder text = new StringBuilder();
        int bases = kit.base(record, allele, -1);
        for (int i = 0; i < bases; i++) {
            text.append("ACGT".charAt(kit.base(record, allele, i)));
        }
        return text.toString();
    }

    /** The place and the alleles, as in "3 GCA G". */
    static String shape(VariantKit kit, int record) {
        StringBuilder text = new StringBuilder();
        text.append(kit.about(record, 0));
        int alleles = kit.about(record, 1);
        for (int a = 0; a < alleles; a++) {
            text.append(' ').append(allele(kit, record, a));
        }
        return text.toString();
    }

    /** All bytes of a record, written out, as numbers with a space between. */
    static String bytes(VariantKit kit, int record) {
        List<String> all = new ArrayList<>();
        int bytes = kit.written(record, -1);
        for (int i = 0; i < bytes; i++) {
            all.add(String.valueOf(kit.written(record, i)));
        }
        return String.join(" ", all);
    }

    /** Types bytes that are given as by bytes(). */
    static void type(VariantKit kit, String bytes) {
        if (!bytes.isEmpty()) {
            for (String one : bytes.split(" ")) {
                kit.type(Long.parseLong(one), 1);
            }
        }
    }

    /** Every record's bytes, one record a line: the whole list as it can be seen from outside. */
    static String all(VariantKit kit) {
        StringBuilder text = new StringBuilder();
        for (int i = 0; i < kit.records(); i++) {
            text.append(bytes(kit, i)).append('\n');
        }
        return text.toString();
    }
}
