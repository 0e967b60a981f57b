/** What each operation names, from the document, for tests of put. */
final class Operands {
    /**
     * Of a, b and c: W, L, F, D, T registers, P a place, R a row's kind, N a new thing's kind, K any kind,
     * - what is not looked at.
     */
    static final String[] NAMES = {
        "---", "W--", "L--", "WW-", "WWW", "WWW", "WWW", "WWW", "WWW", "LLL", "LLL", "LLL", "LLL",
        "LW-", "WL-", "FL-", "DL-", "LF-", "WD-", "DF-", "FD-", "FF-", "DD-", "FFF", "DDD", "WWW", "WDD",
        "P--", "WP-", "P--", "---", "TRW", "TWW", "TNW", "TT-", "T--", "WTT", "WTK", "WT-",
        "WTW", "WTW", "WTW", "WTW", "WTW", "LTW", "FTW", "DTW", "TTW", "TTW",
        "WTW", "WTW", "WTW", "WTW", "WTW", "LTW", "FTW", "DTW", "TTW", "TTW",
        "WT-", "WT-", "LT-", "LT-", "TT-", "TT-", "WTW", "WTW",
        "TWT", "T--", "T--", "WT-", "TT-", "W--", "W--"
    };

    private Operands() {
    }

    static int low(char name) {
        return name == 'N' ? 11 : 0;
    }

    static int high(char name) {
        switch (name) {
            case 'W':
            case 'T':
                return 7;
            case 'P':
                return 199;
            case 'R':
                return 9;
            case 'N':
                return 14;
            case 'K':
                return 16;
            default:
                return 3;
        }
    }

    static boolean fits(int op, int... operands) {
        if (op < 0 || op >= NAMES.length) {
            return false;
        }
        for (int i = 0; i < 3; i++) {
            char name = NAMES[op].charAt(i);
            if (name != '-' && (operands[i] < low(name) || operands[i] > high(name))) {
                return false;
            }
        }
        return true;
    }
}
