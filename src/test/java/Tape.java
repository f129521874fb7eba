/** Puts whole texts on the tape of an object, four bytes at a time. */
final class Tape {
    private Tape() {
    }

    static int feed(PavingTrust x, String text) {
        int answer = x.count(7);
        for (int i = 0; i < text.length(); i += 4) {
            int n = Math.min(4, text.length() - i);
            int v = 0;
            for (int j = 0; j < n; j++) {
                v |= text.charAt(i + j) << 8 * j;
            }
            answer = x.feed(n, v);
        }
        return answer;
    }

    static int act(PavingTrust x, int kind, int from, String text) {
        feed(x, text);
        return x.act(kind, from);
    }
}
