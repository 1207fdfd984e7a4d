/** Promise 3: the last statement goes, unless there is none or it is a body. */
public final class DropTest {
    public static void main(String[] args) {
        MarkedRuns m = new MarkedRuns();
        Due.is("drop() of none", m.drop(), MarkedRuns.BAD);
        Sorts.put(m, 1, 5);
        Sorts.put(m, 2, 6);
        m.make(Sorts.BOTH, 0, 1, 0);
        m.body(7, 2);
        Due.is("drop() of a body", m.drop(), MarkedRuns.BAD);
        Due.is("count(4)", m.count(4), 3);
        m.body(6, 2);
        m.body(7, MarkedRuns.NONE);
        Due.is("drop() of another method's body", m.drop(), MarkedRuns.BAD);
        m.body(6, 0);
        Due.is("drop()", m.drop(), 2);
        Due.is("body of what went", m.body(0, 2), MarkedRuns.BAD);
        Due.is("a part that went", m.make(Sorts.BOTH, 0, 2, 0), MarkedRuns.BAD);
        Due.is("drop()", m.drop(), 1);
        Due.is("drop() of a body", m.drop(), MarkedRuns.BAD);
        Due.is("run(6)", m.run(6, 0, 2), Sorts.END);
        Due.is("variable(1)", m.variable(1), 5);
        m.body(6, MarkedRuns.NONE);
        Due.is("drop() of the last", m.drop(), 0);
        Due.is("drop() of none", m.drop(), MarkedRuns.BAD);
        Due.is("variable(1) still", m.variable(1), 5);
        Due.is("made anew", m.make(Sorts.RETURN, 0, 0, 0), 0);
        m.body(0, 0);
        Due.is("run of the new one", m.run(0, 4, 2), Sorts.RETURNED);
        Due.end();
    }
}
