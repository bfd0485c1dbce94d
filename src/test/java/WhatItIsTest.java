/** The section What it is: the calls that an object is good for. */
public final class WhatItIsTest {
    private static void lastOf512Calls(Check check) {
        HeaderSchedule x = new HeaderSchedule();
        x.frame(8, 0, 8, true);
        x.entry(0, 0, 0, 1);
        x.start(0);
        for (int call = 4; call <= 511; call++) {
            check.ticks(x, 1);
        }
        check.due("the 512th call", x.count(1), 508);
        HeaderSchedule y = new HeaderSchedule();
        for (int call = 1; call <= 511; call++) {
            check.none("tick()", y.tick());
        }
        check.due("the 512th call makes a frame", y.frame(8, 0, 8, true), 0);
    }

    public static void main(String[] args) {
        Section section = new Section("What it is");
        section.sentence("An object is used for at most 512 calls after it has been made",
            WhatItIsTest::lastOf512Calls);
        section.end();
    }
}
