import java.util.function.LongSupplier;

/** Counts the answers that are not due, and ends the test with exit code 1 if there was one. */
final class Check {
    private final String test;
    private int wrong = 0;

    Check(String test) {
        this.test = test;
    }

    void same(String call, long got, long due) {
        if (got != due) {
            tell(call + " answered " + got + ", due is " + due);
        }
    }

    void sameFloat(String call, float got, float due) {
        if (got != due) {
            tell(call + " answered " + got + ", due is " + due);
        }
    }

    void throwing(String call, Class<? extends RuntimeException> due, LongSupplier run) {
        try {
            long got = run.getAsLong();
            tell(call + " answered " + got + ", due is " + due.getSimpleName());
        } catch (RuntimeException e) {
            if (e.getClass() != due) {
                tell(call + " threw " + e + ", due is " + due.getSimpleName());
            }
        }
    }

    void outside(String call, LongSupplier run) {
        throwing(call, IndexOutOfBoundsException.class, run);
    }

    void illegal(String call, LongSupplier run) {
        throwing(call, IllegalArgumentException.class, run);
    }

    /** The text is refused with this code at the byte that a ^ marks, and nothing else comes of it. */
    void bad(int code, String marked) {
        int offset = marked.indexOf('^');
        String text = marked.substring(0, offset) + marked.substring(offset + 1);
        PeepBox box = new PeepBox();
        same("load of " + marked, load(box, text), code);
        same("errorOffset of " + marked, box.errorOffset(), offset);
        same("checksum after " + marked, box.checksum(), new PeepBox().checksum());
        same("undo after " + marked, box.undo(), -1);
    }

    void good(int viewers, String text) {
        PeepBox box = new PeepBox();
        same("load of " + text, load(box, text), viewers);
        same("errorOffset of " + text, box.errorOffset(), -1);
        same("undo after " + text, box.undo(), 0);
    }

    void tell(String text) {
        wrong++;
        if (wrong <= 40) {
            System.out.println(test + ": " + text);
        }
    }

    void finish() {
        System.out.println(test + ": " + (wrong == 0 ? "all as due" : wrong + " not as due"));
        if (wrong != 0) {
            System.exit(1);
        }
    }

    /** Appends the text and, since 20 bytes come at a time, spaces behind it. */
    static int append(PeepBox box, String text) {
        int last = 0;
        for (int i = 0; i < text.length(); i += 20) {
            last = box.append(word(text, i), word(text, i + 4), word(text, i + 8),
                    word(text, i + 12), word(text, i + 16));
        }
        return last;
    }

    private static int word(String text, int offset) {
        int word = 0;
        for (int i = offset; i < offset + 4; i++) {
            word = word << 8 | (i < text.length() ? text.charAt(i) : ' ');
        }
        return word;
    }

    static int load(PeepBox box, String text) {
        append(box, text);
        return box.load(text.length());
    }

    static PeepBox loaded(String text) {
        PeepBox box = new PeepBox();
        int viewers = load(box, text);
        if (viewers < 0) {
            throw new IllegalStateException("error " + viewers + " at " + box.errorOffset() + " of " + text);
        }
        return box;
    }
}
