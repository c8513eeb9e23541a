/** The number op of a TRANSITION, by its KIND. */
final class Op {
    static final int PASS = 0;

    private Op() {
    }

    static int is(int a, int b) {
        return of(1, a, b);
    }

    static int isNot(int a, int b) {
        return of(2, a, b);
    }

    static int set(int a, int b) {
        return of(3, a, b);
    }

    static int add(int a, int b) {
        return of(4, a, b);
    }

    static int copy(int a, int b) {
        return of(5, a, b);
    }

    static int send(int a) {
        return of(6, a, 0);
    }

    static int take(int a) {
        return of(7, a, 0);
    }

    static int of(int kind, int a, int b) {
        return kind * 16 + a * 4 + b;
    }
}
