/** Counts the answers that are as due, and tells those that are not. */
final class Checks {
    private final String name;
    private int asDue = 0;
    private int wrong = 0;
    private String part = "";

    Checks(String name) {
        this.name = name;
    }

    void part(String part) {
        this.part = part;
    }

    boolean due(String call, long got, long want) {
        if (got == want) {
            asDue++;
            return true;
        }
        wrong++;
        if (wrong <= 40) {
            System.out.println(name + ", " + part + ": " + call + " answered " + got
                    + ", due is " + want);
        }
        return false;
    }

    void holds(String what, boolean held) {
        due(what, held ? 1 : 0, 1);
    }

    int wrong() {
        return wrong;
    }

    void end() {
        System.out.println(name + ": " + asDue + " answers are as due, " + wrong + " are not");
        if (wrong != 0) {
            System.exit(1);
        }
    }
}
