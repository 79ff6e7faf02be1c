import java.util.Arrays;

/** One call by its name and its numbers, so that what a test prints is what it called. */
final class Call {
    private final String name;
    private final int[] numbers;

    Call(String name, int... numbers) {
        this.name = name;
        this.numbers = numbers;
    }

    long on(IcePads pads) {
        Class<?>[] types = new Class<?>[numbers.length];
        Arrays.fill(types, int.class);
        Object[] boxed = Arrays.stream(numbers).boxed().toArray();
        try {
            return ((Number) IcePads.class.getMethod(name, types).invoke(pads, boxed)).longValue();
        } catch (ReflectiveOperationException e) {
            throw new IllegalStateException(this + " failed: " + (e.getCause() == null ? e : e.getCause()), e);
        }
    }

    /** The same call with one of its numbers changed. */
    Call with(int place, int number) {
        int[] others = numbers.clone();
        others[place] = number;
        return new Call(name, others);
    }

    int places() {
        return numbers.length;
    }

    @Override
    public String toString() {
        String list = Arrays.toString(numbers);
        return name + "(" + list.substring(1, list.length() - 1) + ")";
    }
}
