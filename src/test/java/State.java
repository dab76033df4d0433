/** All that can be asked of an object without changing it, as a text: to see that a refused call changed nothing. */
final class State {
    private State() {
    }

    static String of(HomeRings x) {
        StringBuilder text = new StringBuilder();
        for (int what = 0; what < 7; what++) {
            text.append(" count").append(what).append('=').append(x.count(what));
        }
        text.append(" wrong=").append(x.wrong());
        for (int i = 0; i < x.count(3); i++) {
            text.append(" row").append(i).append('=').append(x.row(i));
        }
        for (int f = 0; f < x.count(0); f++) {
            addFamily(x, f, text);
        }
        return text.toString();
    }

    private static void addFamily(HomeRings x, int f, StringBuilder text) {
        text.append("\n family ").append(f).append(':');
        for (int what = 0; what < 8; what++) {
            text.append(' ').append(x.of(f, what));
        }
        for (int g = 0; g < x.count(0); g++) {
            if (g != f) {
                text.append(" to ").append(g).append('=').append(x.rank(f, g));
                text.append('/').append(x.can(f, g)).append('/').append(x.week(f, g));
            }
        }
        for (int year = 0; year < x.count(2); year++) {
            text.append(" year").append(year).append('=').append(x.went(year, f));
        }
    }
}
