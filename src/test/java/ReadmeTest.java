/** The example of README.md answers what README.md says. */
public final class ReadmeTest {
    public static void main(String[] args) {
        Check check = new Check();
        ZoneNodes zone = new ZoneNodes(100, 10, 4, 60);
        check.yes("key(0, 77)", zone.key(0, 77));
        check.yes("change(0, 2, 1, 5)", zone.change(0, 2, 1, 5));
        check.due("update(0, 0, seal(0, 0))", zone.update(0, 0, zone.seal(0, 0)), 0);
        check.due("serial(0)", zone.serial(0), 101);
        check.yes("tick(1)", zone.tick(1));
        for (int moved = 0; moved < 100 && zone.messages() > 0; moved++) {
            check.yes("deliver(0)", zone.deliver(0));
        }
        check.due("messages()", zone.messages(), 0);
        check.due("query(1, 2, 1)", zone.query(1, 2, 1), 1);
        check.end();
    }
}
