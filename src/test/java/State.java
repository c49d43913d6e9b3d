/** What can be seen of a machine from outside in 84 calls: registers, system registers and counts. */
final class State {
    private static final int REGISTERS = 35;
    private static final int SYSTEM = 32;
    private static final int COUNTS = 17;

    private final int[] values = new int[REGISTERS + SYSTEM + COUNTS];

    State(PageMachine x) {
        for (int i = 0; i < REGISTERS; i++) {
            values[register(i)] = x.get(0, i);
        }
        for (int i = 0; i < SYSTEM; i++) {
            values[system(i)] = x.get(1, i);
        }
        for (int i = 0; i < COUNTS; i++) {
            values[count(i)] = x.count(i);
        }
    }

    static int register(int i) {
        return i;
    }

    static int system(int i) {
        return REGISTERS + i;
    }

    static int count(int i) {
        return REGISTERS + SYSTEM + i;
    }

    private static String name(int place) {
        if (place < REGISTERS) {
            return "register " + place;
        }
        return place < count(0) ? "system register " + (place - REGISTERS) : "count " + (place - count(0));
    }

    /** Asks that the machine is as it was, but for some places. */
    void staysBut(String what, PageMachine x, int... places) {
        State after = new State(x);
        for (int place : places) {
            after.values[place] = values[place];
        }
        for (int place = 0; place < values.length; place++) {
            Check.same(what + ": " + name(place) + " stays", after.values[place], values[place]);
        }
    }
}
