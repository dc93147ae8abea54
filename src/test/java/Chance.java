/** A fixed series of picks, so that each run of a test is the same, and lines made by it. */
final class Chance {
    private long seed;

    Chance(long seed) {
        this.seed = seed;
    }

    /** From 0 to below the bound. */
    int pick(int bound) {
        seed = seed * 6364136223846793005L + 1442695040888963407L;
        return (int) ((seed >>> 33) % bound);
    }

    char pick(String characters) {
        return characters.charAt(pick(characters.length()));
    }

    /** An expression, with indices of so many nodes and now and then of one that is not there. */
    String expression(int depth, int nodes) {
        int way = depth == 0 ? pick(5) : pick(16);
        String a = way < 5 ? "" : expression(depth - 1, nodes);
        String b = way < 10 ? "" : expression(depth - 1, nodes);
        switch (way) {
            case 0: case 1: return String.valueOf(pick("uvwxyzpqr"));
            case 2: return Integer.toString(pick(pick(3) == 0 ? 1000 : 12));
            case 3: case 4: return "#" + pick(Math.max(1, nodes + (pick(6) == 0 ? 2 : 0)));
            case 5: return "-" + a;
            case 6: return "(" + a + ")";
            case 7: case 8: return "A(" + a + ")";
            case 9: return "S(" + a + ")";
            case 10: return a + "+" + b;
            case 11: return a + "-" + b;
            case 12: return a + "*" + b;
            case 13: return "M(" + a + "," + b + ")";
            case 14: return "L(" + a + "," + b + ")";
            default: return "P(" + a + "," + b + "," + expression(0, nodes) + ")";
        }
    }
}
