/** Promises 12 to 14: turn, either, both. */
public final class MadeTest {
    public static void main(String[] args) {
        turnGoesTheOtherWay();
        eitherBesideOneAnother();
        bothArePairs();
        Check.end();
    }

    private static WordMachines withTwo() {
        WordMachines x = new WordMachines();
        x.blank(0, 2);
        x.mark(0, 0, 1);
        x.mark(0, 1, 2);
        x.arc(0, 0, 0, 0, true);
        x.arc(0, 0, 0, 1, true);
        x.arc(0, 1, 1, 0, true);
        x.blank(1, 3);
        x.mark(1, 0, 3);
        x.mark(1, 2, 2);
        x.arc(1, 0, 0, 1, true);
        x.arc(1, 0, 0, 2, true);
        x.arc(1, 2, 1, 0, true);
        x.arc(1, 1, 7, 1, true);
        return x;
    }

    private static final String ONE = "0:1 a0 a1; 1:2 b0;";
    private static final String OTHER = "0:3 a1 a2; 1:0 h1; 2:2 b0;";

    private static void dueOthersStay(WordMachines x) {
        Check.due("machine i stays", Ask.machine(x, 0), ONE);
        Check.due("machine j stays", Ask.machine(x, 1), OTHER);
    }

    private static void turnGoesTheOtherWay() {
        WordMachines x = withTwo();
        x.blank(2, 24);
        x.mark(2, 23, 3);
        x.turn(2, 0);
        Check.due("turned", Ask.machine(x, 2), "0:2 a0 b1; 1:1 a0;");
        x.turn(3, 1);
        Check.due("turned other", Ask.machine(x, 3), "0:3 b2; 1:0 a0 h1; 2:1 a0;");
        dueOthersStay(x);
        x.turn(3, 3);
        Check.due("turned in its place", Ask.machine(x, 3), OTHER);
        x.turn(0, 0);
        Check.due("turned in its place once", Ask.machine(x, 0), "0:2 a0 b1; 1:1 a0;");
        Ask.read(x, 4, "abc");
        x.turn(5, 4);
        Check.due("turned takes cba", Ask.takes(x, 5, "cba"), true);
        Check.due("turned takes abc", Ask.takes(x, 5, "abc"), false);
    }

    private static void eitherBesideOneAnother() {
        WordMachines x = withTwo();
        x.blank(2, 24);
        x.mark(2, 23, 3);
        x.arc(2, 5, 0, 5, true);
        Check.due("either", x.either(2, 0, 1), 5);
        Check.due("one, other", Ask.machine(x, 2), "0:1 a0 a1; 1:2 b0; 2:3 a3 a4; 3:0 h3; 4:2 b2;");
        Check.due("either the other way", x.either(3, 1, 0), 5);
        Check.due("other, one", Ask.machine(x, 3), "0:3 a1 a2; 1:0 h1; 2:2 b0; 3:1 a3 a4; 4:2 b3;");
        Check.due("either with itself", x.either(4, 0, 0), 4);
        Check.due("one, one", Ask.machine(x, 4), "0:1 a0 a1; 1:2 b0; 2:1 a2 a3; 3:2 b2;");
        dueOthersStay(x);
        Check.due("either into the first", x.either(0, 0, 1), 5);
        Check.due("one in its place", Ask.machine(x, 0), Ask.machine(x, 2));
        WordMachines y = withTwo();
        Check.due("either into the second", y.either(1, 0, 1), 5);
        Check.due("other in its place", Ask.machine(y, 1), Ask.machine(x, 2));
        Check.due("either all in one place", y.either(0, 0, 0), 4);
        Check.due("all in one place", Ask.machine(y, 0), Ask.machine(x, 4));
    }

    private static void bothArePairs() {
        WordMachines x = withTwo();
        x.blank(2, 24);
        x.mark(2, 23, 3);
        x.arc(2, 5, 0, 5, true);
        Check.due("both", x.both(2, 0, 1), 6);
        Check.due("pairs of one and other", Ask.machine(x, 2),
                "0:1 a1 a2 a4 a5; 1:0; 2:0; 3:2; 4:0; 5:2 b0;");
        Check.due("both the other way", x.both(3, 1, 0), 6);
        Check.due("pairs of other and one", Ask.machine(x, 3),
                "0:1 a2 a3 a4 a5; 1:2; 2:0; 3:0; 4:0; 5:2 b0;");
        Check.due("both with itself", x.both(4, 0, 0), 4);
        Check.due("pairs of one and one", Ask.machine(x, 4), "0:1 a0 a1 a2 a3; 1:0; 2:0; 3:2 b0;");
        dueOthersStay(x);
        Check.due("both into the first", x.both(0, 0, 1), 6);
        Check.due("pairs in the first's place", Ask.machine(x, 0), Ask.machine(x, 2));
        WordMachines y = withTwo();
        Check.due("both into the second", y.both(1, 0, 1), 6);
        Check.due("pairs in the second's place", Ask.machine(y, 1), Ask.machine(x, 2));
        Check.due("both all in one place", y.both(0, 0, 0), 4);
        Check.due("pairs all in one place", Ask.machine(y, 0), Ask.machine(x, 4));
    }
}
