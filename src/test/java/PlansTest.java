/** Promises 19 to 22: the PLAN and the BOOK. */
public final class PlansTest {
    private static final Check C = new Check("PlansTest");

    public static void main(String[] args) {
        plans();
        ends();
        endsWithoutFunctions();
        books();
        looks();
        C.end();
    }

    private static void plans() {
        ShellLines x = Check.with("ok", "fail 1");
        C.due("plan(4, 0)", x.plan(4, 0), -1);
        C.due("plan(-2, 0)", x.plan(-2, 0), -1);
        C.due("plan(0, 2)", x.plan(0, 2), -1);
        C.due("plan(0, -1)", x.plan(0, -1), -1);
        C.due("plan(1, 5)", x.plan(1, 5), -1);
        C.due("plan(1, -1)", x.plan(1, -1), -1);
        C.due("plan(2, 3)", x.plan(2, 3), -1);
        C.due("plan(2, -1)", x.plan(2, -1), -1);
        C.due("the PLAN", x.count(3), 0);
        C.due("plan(0, 1)", x.plan(0, 1), 1);
        C.due("plan(1, 4)", x.plan(1, 4), 2);
        C.due("plan(2, 2)", x.plan(2, 2), 3);
        C.due("plan(3, -9)", x.plan(3, -9), 4);
        C.due("plan(3, MAX)", x.plan(3, Integer.MAX_VALUE), 5);
        for (int i = 6; i <= 10; i++) {
            C.due("plan(0, 0)", x.plan(0, 0), i);
        }
        C.due("an eleventh", x.plan(0, 0), -4);
        C.due("an eleventh of no LINE", x.plan(0, 2), -1);
        C.due("the PLAN", x.count(3), 10);
        C.due("plan(-1, 7)", x.plan(-1, 7), 0);
        C.due("the PLAN", x.count(3), 0);
        C.due("plan(1, 0)", x.plan(1, 0), 1);
    }

    private static void end(ShellLines x, long... want) {
        for (int name = 0; name < want.length; name++) {
            C.due("ends(" + name + ")", x.ends(name), want[name]);
        }
    }

    private static void ends() {
        ShellLines x = Check.with("echo $a|add 1|set a", "echo $a $b|sum|set b", "fail 1", "echo 50|set c");
        C.due("ends(5)", x.ends(5), ShellLines.NO);
        C.due("ends(-1)", x.ends(-1), ShellLines.NO);
        x.value(0, 3);
        x.value(3, -8);
        end(x, 3, 0, 0, -8, 0);
        x.plan(0, 0);
        end(x, 4, 0, 0, -8, 0);
        x.plan(0, 0);
        x.plan(0, 1);
        end(x, 5, 5, 0, -8, 0);
        x.plan(1, 0);
        x.plan(0, 1);
        x.plan(0, 0);
        end(x, 1, 5, 0, -8, 0);
        x.plan(1, 3);
        x.trap(3);
        end(x, 1, 5, 0, 0, 0);
        x.plan(0, 2);
        end(x, 1, 5, 50, 0, 0);
        x.value(2, 7);
        x.plan(-1, 0);
        x.plan(3, 0);
        x.plan(0, 2);
        end(x, 3, 0, 7, -8, 0);
        C.due("THE TRAP stays", x.told(30), 3);
        x.plan(-1, 0);
        end(x, 3, 0, 7, -8, 0);
    }

    private static void endsWithoutFunctions() {
        ShellLines x = Check.with("f 4|add $a|set a", "echo $p|mul 2");
        x.define(0, 1);
        x.plan(0, 0);
        end(x, 8);
        x.plan(2, 1);
        x.plan(0, 0);
        end(x, 16);
        x.plan(2, 0);
        x.plan(0, 0);
        end(x, 16);
        C.due("f stays", x.told(20), 1);
        C.due("a stays", x.told(10), 0);
        // FUEL is 60 for each RUN of a PLAN.
        ShellLines y = Check.with("g 1;g 1;g 1;g 1;echo $a|add 1|set a", "ok;ok;ok;ok;ok;ok;ok;ok;ok;ok");
        y.define(1, 1);
        y.plan(0, 0);
        y.plan(0, 0);
        end(y, 2);
    }

    private static void books() {
        ShellLines x = new ShellLines();
        C.due("book(5, 0)", x.book(5, 0), -1);
        C.due("book(-2, 0)", x.book(-2, 0), -1);
        for (int i = 1; i <= 8; i++) {
            C.due("book " + i, x.book(i % 5, i), i);
        }
        C.due("a ninth", x.book(0, 0), -4);
        C.due("a ninth of no NAME", x.book(5, 0), -1);
        C.due("the BOOK", x.count(4), 8);
        C.due("book(-1, 5)", x.book(-1, 5), 0);
        C.due("the BOOK", x.count(4), 0);
        C.due("book(4, 5)", x.book(4, 5), 1);
    }

    private static void looks() {
        ShellLines x = Check.with("echo 9|set b");
        C.due("looked at nothing", x.looked(), -5);
        x.book(0, 0);
        x.book(1, 0);
        C.due("all so", x.looked(), -5);
        x.book(1, 9);
        C.due("the third", x.looked(), 2);
        x.run(0);
        C.due("the second", x.looked(), 1);
        x.value(0, -1);
        C.due("the first", x.looked(), 0);
        x.book(-1, 0);
        C.due("looked at nothing", x.looked(), -5);
        x.book(0, -1);
        x.book(1, 9);
        x.book(4, 1);
        C.due("the third", x.looked(), 2);
        x.value(4, 1);
        C.due("all so", x.looked(), -5);
    }
}
