import java.nio.charset.StandardCharsets;

/** Counts the answers that are not as due, and tells texts to an object of SugarStamps. */
final class Due {
    private int wrong = 0;
    private int asked = 0;
    private final String promise;

    Due(String promise) {
        this.promise = promise;
    }

    void due(String call, int got, int want) {
        asked++;
        if (got == want) return;
        wrong++;
        System.out.println(promise + ": " + call + " answered " + got + ", due is " + want);
    }

    int wrong() {
        return wrong;
    }

    int asked() {
        return asked;
    }

    /** Writes a text in rows of eight bytes; answers what the last write answered. */
    static int write(SugarStamps x, String text) {
        byte[] bytes = text.getBytes(StandardCharsets.ISO_8859_1);
        int answer = x.count(9);
        for (int from = 0; from < bytes.length; from += 8) {
            int n = Math.min(8, bytes.length - from);
            long row = 0;
            for (int i = 0; i < n; i++) row |= (bytes[from + i] & 255L) << 8 * i;
            answer = x.write(row, n);
        }
        return answer;
    }

    /** A new object that was told some texts, each of which must be without a fault. */
    static SugarStamps told(String... texts) {
        SugarStamps x = new SugarStamps();
        for (String text : texts) tell(x, text);
        return x;
    }

    static void tell(SugarStamps x, String text) {
        write(x, text);
        if (x.office() < 1) throw new IllegalStateException("fault at " + x.fault() + " of " + text);
    }
}
