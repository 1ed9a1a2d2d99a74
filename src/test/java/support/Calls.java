/** Calls told as texts, as "later(0, 99, 2)", and rows of them with the answers that are due, as "go(100) OUTSIDE". */
final class Calls {
    private Calls() {
    }

    /** Checks rows on one object, in their order; a row in quotes is a text that is told without a fault. */
    static void due(Due d, SugarStamps x, String... rows) {
        for (String row : rows) {
            if (row.startsWith("'")) {
                Due.tell(x, row.substring(1, row.length() - 1));
                continue;
            }
            int behind = row.indexOf(')') + 1;
            String call = row.substring(0, behind);
            d.due(call, answer(x, call), (int) number(row.substring(behind).trim()));
        }
    }

    static int answer(SugarStamps x, String call) {
        int open = call.indexOf('(');
        String inside = call.substring(open + 1, call.indexOf(')')).trim();
        String[] parts = inside.isEmpty() ? new String[0] : inside.split(",");
        long[] n = new long[parts.length];
        for (int i = 0; i < n.length; i++) n[i] = number(parts[i].trim());
        String name = call.substring(0, open);
        return switch (n.length) {
            case 0 -> ofNone(x, name);
            case 1 -> ofOne(x, name, (int) n[0]);
            case 2 -> name.equals("write") ? x.write(n[0], (int) n[1]) : ofTwo(x, name, (int) n[0], (int) n[1]);
            default -> ofThree(x, name, (int) n[0], (int) n[1], (int) n[2]);
        };
    }

    private static int ofNone(SugarStamps x, String name) {
        return switch (name) {
            case "erase" -> x.erase();
            case "fault" -> x.fault();
            case "office" -> x.office();
            case "rain" -> x.rain();
            case "forget" -> x.forget();
            default -> throw new IllegalArgumentException(name);
        };
    }

    private static int ofOne(SugarStamps x, String name, int a) {
        return switch (name) {
            case "go" -> x.go(a);
            case "next" -> x.next(a);
            case "sit" -> x.sit(a);
            case "keep" -> x.keep(a);
            case "back" -> x.back(a);
            case "filed" -> x.filed(a);
            case "worst" -> x.worst(a);
            case "stamps" -> x.stamps(a);
            case "count" -> x.count(a);
            default -> throw new IllegalArgumentException(name);
        };
    }

    private static int ofTwo(SugarStamps x, String name, int a, int b) {
        return switch (name) {
            case "desk" -> x.desk(a, b);
            case "trail" -> x.trail(a, b);
            case "file" -> x.file(a, b);
            case "as" -> x.as(a, b);
            case "spill" -> x.spill(a, b);
            case "stamp" -> x.stamp(a, b);
            case "queue" -> x.queue(a, b);
            case "quiet" -> x.quiet(a, b);
            case "harm" -> x.harm(a, b);
            case "crumbs" -> x.crumbs(a, b);
            case "odds" -> x.odds(a, b);
            default -> throw new IllegalArgumentException(name);
        };
    }

    private static int ofThree(SugarStamps x, String name, int a, int b, int c) {
        return switch (name) {
            case "later" -> x.later(a, b, c);
            case "honey" -> x.honey(a, b, c);
            case "smear" -> x.smear(a, b, c);
            case "seen" -> x.seen(a, b, c);
            default -> throw new IllegalArgumentException(name);
        };
    }

    private static long number(String word) {
        return switch (word) {
            case "NONE" -> -1;
            case "UNKNOWN" -> -2;
            case "OUTSIDE" -> -3;
            case "NOT" -> -4;
            case "FULL" -> -5;
            case "MIN" -> Integer.MIN_VALUE;
            case "MAX" -> Integer.MAX_VALUE;
            default -> Long.decode(word);
        };
    }
}
