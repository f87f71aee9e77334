/** Answers one behind the other, those that are exceptions too. */
final class Text {
    private final StringBuilder text = new StringBuilder();

    Text line(String name) {
        text.append('\n').append(name).append(':');
        return this;
    }

    Text add(Check.Call call) {
        text.append(' ').append(Check.told(call));
        return this;
    }

    @Override
    public String toString() {
        return text.toString();
    }
}
