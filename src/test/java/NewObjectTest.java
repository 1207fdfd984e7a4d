/** Promise 1: no statements, bodies; no run. */
public final class NewObjectTest {
    public static void main(String[] args) {
        MarkedRuns m = new MarkedRuns();
        for (int what = 0; what <= 5; what++) {
            Due.is("count(" + what + ")", m.count(what), 0);
        }
        Due.is("told(0)", m.told(0), MarkedRuns.NONE);
        for (int what = 1; what <= 8; what++) {
            Due.is("told(" + what + ")", m.told(what), 0);
        }
        for (int kind = 0; kind <= 4; kind++) {
            Due.is("marks(" + kind + ")", m.marks(kind), 0);
        }
        for (int x = 0; x <= 7; x++) {
            Due.is("variable(" + x + ")", m.variable(x), 0);
        }
        for (int row = 0; row <= 3; row++) {
            Due.is("size(" + row + ")", m.size(row), MarkedRuns.NONE);
            Due.is("item(" + row + ", 0)", Due.item(m, row, 0), Due.NULL_THROWN);
        }
        Due.is("began(0)", m.began(0), MarkedRuns.NONE);
        Due.is("drop()", m.drop(), MarkedRuns.BAD);
        for (int method = 0; method <= 7; method++) {
            Due.is("run(" + method + ")", m.run(method, 0, 160), MarkedRuns.BAD);
            Due.is("same(" + method + ")", m.same(method, 0, 160, 160), MarkedRuns.BAD);
        }
        MarkedRuns other = new MarkedRuns();
        other.make(Sorts.PUT, 0, 1, 0);
        Due.is("count(4) of another object", m.count(4), 0);
        Due.end();
    }
}
