/** Promise 8: tick. */
public final class TickTest {
    private static final Check CHECK = new Check();

    public static void main(String[] args) {
        wrongNumbersAreRefused();
        dueAndAskedTimesCount();
        downSecondariesDoNotAsk();
        fetchingSecondariesDoNotAsk();
        askingGoesOnThoughTheAskIsLost();
        CHECK.end();
    }

    private static void wrongNumbersAreRefused() {
        Bench bench = new Bench(1, 10, 4, 60);
        for (int n : new int[] {0, -1, 21, Integer.MAX_VALUE, Integer.MIN_VALUE}) {
            CHECK.no("tick(" + n + ")", bench.zone.tick(n));
        }
        CHECK.due("messages(), no tick was made", bench.zone.messages(), 0);
        CHECK.yes("tick(20)", bench.zone.tick(20));
        CHECK.due("time 26 at clock 20", bench.send(26, Bench.add(1, 1, 1)), 18);
        CHECK.due("time 25 at clock 20", bench.send(25, Bench.add(1, 1, 1)), 0);
    }

    private static void dueAndAskedTimesCount() {
        ZoneNodes zone = new ZoneNodes(1, 10, 3, 60);
        CHECK.yes("tick(1)", zone.tick(1));
        CHECK.due("messages() at 1", zone.messages(), 2);
        CHECK.due("message(0)", zone.message(0), 210000);
        CHECK.due("message(1)", zone.message(1), 220000);
        CHECK.due("state(1)", zone.state(1), 1);
        zone.tick(2);
        CHECK.due("messages() at 3", zone.messages(), 2);
        zone.tick(1);
        CHECK.due("messages() at 4", zone.messages(), 4);
        zone.tick(2);
        CHECK.due("messages() at 6", zone.messages(), 4);
        zone.tick(7);
        CHECK.due("messages() at 13", zone.messages(), 10);
        for (int i = 0; i < 10; i++) {
            CHECK.due("message(" + i + ")", zone.message(i), i % 2 == 0 ? 210000 : 220000);
        }
    }

    private static void downSecondariesDoNotAsk() {
        ZoneNodes zone = new ZoneNodes(1, 10, 4, 60);
        zone.crash(1);
        zone.tick(1);
        CHECK.due("messages()", zone.messages(), 1);
        CHECK.due("message(0)", zone.message(0), 220000);
        zone.crash(2);
        zone.tick(20);
        CHECK.due("messages(), both down", zone.messages(), 1);
    }

    private static void fetchingSecondariesDoNotAsk() {
        Bench bench = new Bench(1, 10, 4, 60);
        bench.zone.tick(1);
        bench.deliverUpTo(4);
        bench.zone.tick(20);
        CHECK.due("messages(), two FETCHes", bench.zone.messages(), 2);
        CHECK.due("state(1)", bench.zone.state(1), 2);
    }

    private static void askingGoesOnThoughTheAskIsLost() {
        ZoneNodes zone = new ZoneNodes(1, 10, 2, 60);
        zone.tick(1);
        zone.drop(0);
        zone.drop(0);
        CHECK.due("state(1)", zone.state(1), 1);
        zone.tick(2);
        CHECK.due("messages(), asked again", zone.messages(), 2);
        zone.tick(20);
        CHECK.due("messages() at 23", zone.messages(), 22);
        zone.tick(20);
        CHECK.due("messages(), not above 24", zone.messages(), 24);
        zone.deliver(0);
        CHECK.due("messages(), a TELL for an ASK", zone.messages(), 24);
        zone.drop(23);
        zone.tick(2);
        CHECK.due("messages(), room for one", zone.messages(), 24);
        CHECK.due("message(23)", zone.message(23), 210000);
        zone.drop(0);
        zone.tick(1);
        CHECK.due("messages(), asking since the lost ASK", zone.messages(), 23);
    }
}
