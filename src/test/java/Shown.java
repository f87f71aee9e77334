/** All that an object tells of itself, in one text. */
final class Shown {
    private Shown() {
    }

    static String of(BarrierMarks b) {
        StringBuilder text = new StringBuilder();
        for (int what = 0; what < 4; what++) {
            int each = what;
            text.append(Check.told(() -> b.told(each))).append(' ');
        }
        for (int t = 0; t < 9; t++) {
            int task = t;
            text.append("\ntask ").append(t).append(": ").append(Check.told(() -> b.state(task)))
                .append(' ').append(Check.told(() -> b.task(task, 0)))
                .append(' ').append(Check.told(() -> b.task(task, 1)));
        }
        for (int c = 0; c <= b.told(0); c++) {
            int channel = c;
            text.append("\nchannel ").append(c).append(": ").append(Check.told(() -> b.held(channel)))
                .append(' ').append(Check.told(() -> b.waiting(channel)));
            for (int k = 0; k < 10; k++) {
                int at = k;
                text.append(' ').append(Check.told(() -> b.kind(channel, at)))
                    .append('/').append(Check.told(() -> b.value(channel, at)));
            }
        }
        for (int m = 0; m <= b.told(1); m++) {
            showMark(b, m, text);
        }
        return text.toString();
    }

    private static void showMark(BarrierMarks b, int mark, StringBuilder text) {
        text.append("\nmark ").append(mark).append(": ").append(Check.told(() -> b.condition(mark)))
            .append(' ').append(Check.told(() -> b.acknowledged(mark)))
            .append(' ').append(Check.told(() -> b.exact(mark)));
        for (int t = 0; t < 9; t++) {
            int task = t;
            text.append(' ').append(Check.told(() -> b.kept(mark, task)))
                .append('/').append(Check.told(() -> b.keptRows(mark, task)));
        }
        for (int c = 0; c < 17; c++) {
            int channel = c;
            text.append(' ').append(Check.told(() -> b.position(mark, channel)));
        }
    }
}
