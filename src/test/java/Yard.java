/** A ShipYard whose calls are counted: the document leaves free what an object answers behind its 512th call. */
final class Yard {
    private static final int MOST_CALLS = 512;
    private final ShipYard yard = new ShipYard();
    private int calls = 0;

    /** How many calls more may be asked of this object. */
    int left() {
        return MOST_CALLS - calls;
    }

    private ShipYard called() {
        calls++;
        if (calls == MOST_CALLS + 1) {
            Check.due("the calls that a test asks of one object", calls, MOST_CALLS);
        }
        return yard;
    }

    int open(int person) {
        return called().open(person);
    }

    int put(int person, int table, int row, int field, int v) {
        return called().put(person, table, row, field, v);
    }

    int get(int person, int table, int row, int field) {
        return called().get(person, table, row, field);
    }

    int feed(int a, int b, int c, int d, int e) {
        return called().feed(a, b, c, d, e);
    }

    int cut(int n) {
        return called().cut(n);
    }

    int write(int person) {
        return called().write(person);
    }

    int commit(int person) {
        return called().commit(person);
    }

    int leave(int person) {
        return called().leave(person);
    }

    int undo(int commit) {
        return called().undo(commit);
    }

    int model(int table, int row, int field) {
        return called().model(table, row, field);
    }

    int log(int i) {
        return called().log(i);
    }

    int crash(int n) {
        return called().crash(n);
    }

    int reopen() {
        return called().reopen();
    }

    int told(int what) {
        return called().told(what);
    }

    int sea(int spaces) {
        return called().sea(spaces);
    }

    long rest(int what) {
        return called().rest(what);
    }

    int water(int slice, int column) {
        return called().water(slice, column);
    }

    int liquid(int space) {
        return called().liquid(space);
    }

    long arm(int c) {
        return called().arm(c);
    }

    long along(int what, int k) {
        return called().along(what, k);
    }

    int rules(int what) {
        return called().rules(what);
    }

    int verdict(int rule) {
        return called().verdict(rule);
    }

    int steps(int rule) {
        return called().steps(rule);
    }

    long let(int k, int which) {
        return called().let(k, which);
    }

    int nest(int gap) {
        return called().nest(gap);
    }

    int piece(int k, int what) {
        return called().piece(k, what);
    }

    int sheet(int s, int what) {
        return called().sheet(s, what);
    }

    int bars() {
        return called().bars();
    }

    int rod(int k) {
        return called().rod(k);
    }

    int lead() {
        return called().lead();
    }

    int way(int pipe, int what) {
        return called().way(pipe, what);
    }

    int step(int pipe, int k) {
        return called().step(pipe, k);
    }

    int plan() {
        return called().plan();
    }

    int task(int t, int what) {
        return called().task(t, what);
    }
}
