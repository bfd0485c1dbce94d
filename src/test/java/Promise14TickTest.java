/** Promise 14, sentence by sentence. */
public final class Promise14TickTest {
    private static final int NONE = HeaderSchedule.NONE;

    private static void notStarted(Check check) {
        new Twins(check, Scenes::fresh, Scenes::made, Scenes::laden).none("tick()", x -> x.tick());
        HeaderSchedule x = Scenes.laden();
        check.ticks(x, NONE, NONE, NONE);
        check.none("no slot", x.bus(0));
        check.due("count(1)", x.count(1), 0);
        check.none("position()", x.position());
        x.start(0);
        check.due("position()", x.position(), 0);
        check.ticks(x, 3);
    }

    private static void asleep(Check check) {
        new Twins(check, Scenes::asleep).none("tick()", x -> x.tick());
        HeaderSchedule x = Scenes.started();
        check.ticks(x, 1);
        x.sleep();
        check.ticks(x, NONE, NONE, NONE);
        check.due("the latest slot", x.bus(0), 0x08);
        check.due("count(1)", x.count(1), 1);
        check.due("position()", x.position(), 1);
        check.yes("wake()", x.wake());
        check.ticks(x, 2);
        check.due("one entry behind", x.position(), 2);
    }

    private static void underWay(Check check) {
        HeaderSchedule x = Scenes.started();
        check.ticks(x, 1);
        x.write(0, 99);
        x.noise(0, 1);
        check.ticks(x, 0);
        check.due("nothing is received", x.read(0), 10);
        check.due("nothing is counted", x.count(1), 1);
        check.bytes(x, 0x08, 0xFF, 10, 245);
        check.due("position()", x.position(), 1);
        check.ticks(x, 3);
        check.due("the next slot", x.position(), 2);
        HeaderSchedule one = Scenes.oneFrame(false, 1);
        check.ticks(one, 1, 1, 1, 1);
    }

    private static void received(Check check) {
        HeaderSchedule x = Scenes.started();
        check.ticks(x, 1, 0);
        x.write(1, 50);
        check.ticks(x, 1);
        check.due("of a group", x.read(1), 50);
        x.write(3, 60);
        check.ticks(x, 1);
        check.due("in an event frame's slot", x.read(3), 60);
    }

    private static void noResponse(Check check) {
        HeaderSchedule x = Scenes.started();
        check.ticks(x, 1, 0);
        x.write(2, 1);
        check.ticks(x, 2);
        check.bytes(x);
        check.ticks(x, 1, 0, 1, 0);
        x.write(1, 1);
        check.ticks(x, 1, 2);
        check.bytes(x, 0x03);
        check.due("count(2)", x.count(2), 2);
    }

    private static void notValid(Check check) {
        HeaderSchedule x = Scenes.started();
        x.noise(0, 1);
        check.ticks(x, 3, 0);
        x.noise(2, 128);
        x.write(1, 1);
        check.ticks(x, 3);
        check.due("count(3)", x.count(3), 2);
        HeaderSchedule own = Scenes.made();
        own.start(1);
        own.noise(1, 1);
        check.ticks(own, 3);
        check.due("an associated frame in its own slot", own.count(3), 1);
        check.due("count(4)", own.count(4), 0);
    }

    private static void fourInPlaceOfThree(Check check) {
        HeaderSchedule noisy = Scenes.started();
        noisy.write(2, 1);
        check.ticks(noisy, 1, 0, 2);
        noisy.noise(1, 1);
        check.ticks(noisy, 4);
        check.due("count(3)", noisy.count(3), 0);
        check.due("count(4)", noisy.count(4), 1);
        HeaderSchedule both = Scenes.started();
        both.write(2, 1);
        both.write(3, 1);
        check.ticks(both, 1, 0, 2, 4, 0, 1, 1);
        check.due("count(4)", both.count(4), 1);
    }

    public static void main(String[] args) {
        Section section = new Section("Promise 14: tick");
        section.sentence("NONE, and nothing happens, when not started", Promise14TickTest::notStarted);
        section.sentence("NONE, and nothing happens, when -- asleep.", Promise14TickTest::asleep);
        section.sentence("0 when a slot is under way.", Promise14TickTest::underWay);
        section.sentence("1 when a frame was received", Promise14TickTest::received);
        section.sentence("2 when there was no response", Promise14TickTest::noResponse);
        section.sentence("3 when the response was not valid", Promise14TickTest::notValid);
        section.sentence("but 4 in place of 3 in the slot of an event frame.", Promise14TickTest::fourInPlaceOfThree);
        section.end();
    }
}
