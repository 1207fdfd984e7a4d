/** Promise 3: the last statement goes, unless there is none or it is a body. */
public final class DropTest extends Sorts {
    private static void theLastGoes() {
        Due.sentence("The last STATEMENT goes: how many are left.");
        fresh();
        put(1, 5);
        put(1, 6);
        st(BOTH, 0, 1);
        Due.is("drop() of the third", m.drop(), 2);
        Due.is("a part of what went", st(GUARD, 0, 2), BAD);
        Due.is("a body of what went", m.body(0, 2), BAD);
        Due.is("drop() of the second", m.drop(), 1);
        Due.is("drop() of the first", m.drop(), 0);
        Due.is("count(4)", m.count(4), 0);
        Due.is("a new first one", st(RETURN, 0), 0);
        Due.is("run of it", run(0, 4, 160), RETURNED);
    }

    private static void heightsGoToo() {
        Due.sentence("The last STATEMENT goes");
        fresh();
        put(0, 0);
        for (int height = 2; height <= 16; height++) {
            st(GUARD, 0, height - 2);
        }
        m.drop();
        Due.is("a plain one in place of one of height 16", put(0, 1), 15);
        Due.is("a guard of it", st(GUARD, 0, 15), 16);
    }

    private static void partsMayGo() {
        Due.sentence("it is a BODY");
        fresh();
        put(1, 5);
        m.body(0, put(1, 6));
        put(1, 7);
        Due.is("drop() of one behind a body", m.drop(), 2);
        for (int method = 0; method <= 7; method++) {
            m.body(method, 1);
            Due.is("drop() of the body of " + method, m.drop(), BAD);
            Due.is("count(4)", m.count(4), 2);
            m.body(method, NONE);
        }
        m.body(0, 0);
        Due.is("drop() of one that was a body", m.drop(), 1);
        m.body(3, 0);
        m.body(0, NONE);
        Due.is("drop() of a body still", m.drop(), BAD);
        m.body(3, NONE);
        Due.is("drop() of one that is a body no more", m.drop(), 0);
    }

    /** A body has what it is made of below it, so that what a body needs never goes. */
    private static void whatABodyIsMadeOfStays() {
        Due.sentence("BAD: there is none, or it is a BODY.");
        fresh();
        put(1, 5);
        m.body(0, st(GUARD, 0, 0));
        Due.is("drop()", m.drop(), BAD);
        Due.is("run", m.run(0, 0, 160), END);
        Due.is("variable(1)", m.variable(1), 5);
    }

    private static void none() {
        Due.sentence("BAD: there is none");
        fresh();
        Due.is("drop() of none", m.drop(), BAD);
        put(1, 5);
        m.drop();
        Due.is("drop() of none again", m.drop(), BAD);
        Due.is("count(4)", m.count(4), 0);
        Due.is("make", put(1, 5), 0);
    }

    /** What is told of the latest run does not go with a statement. */
    private static void theLatestRunStays() {
        Due.sentence("The last STATEMENT goes: how many are left. BAD");
        fresh();
        int last = st(LAST, put(1, 5), put(2, 6));
        run(last);
        m.body(0, NONE);
        m.drop();
        m.drop();
        m.drop();
        Due.is("variable(2)", m.variable(2), 6);
        Due.is("began(0)", m.began(0), last);
        Due.is("told(4)", m.told(4), 12);
    }

    public static void main(String[] args) {
        theLastGoes();
        heightsGoToo();
        partsMayGo();
        whatABodyIsMadeOfStays();
        none();
        theLatestRunStays();
        Due.end();
    }
}
