/** An EntityDesk that no test uses for more calls than the document promises. */
final class Desk {
    private static final int MOST_CALLS = 512;

    private final EntityDesk desk = new EntityDesk();
    private int calls = 0;

    private EntityDesk used() {
        calls++;
        if (calls > MOST_CALLS) {
            throw new IllegalStateException("a test makes more calls than are promised");
        }
        return desk;
    }

    int calls() {
        return calls;
    }

    boolean put(long v, int n) {
        return used().put(v, n);
    }

    int declare(int name) {
        return used().declare(name);
    }

    int expand(int limit) {
        return used().expand(limit);
    }

    int place() {
        return used().place();
    }

    int given(int i) {
        return used().given(i);
    }

    int text(int name, int i) {
        return used().text(name, i);
    }

    int count(int what) {
        return used().count(what);
    }
}
