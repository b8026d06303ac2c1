import java.lang.management.ManagementFactory;

/** All calls of a run live in one room (LANGUAGE.md, rule 12): what a call makes is counted, in bytes. */
public final class RoomTest {
    // A room has 7.3 million fields and elements, of four bytes and more.
    private static final long ROOM = 4L * 7300000;
    private static final int CALLS = 512;
    private static final com.sun.management.ThreadMXBean COUNTER =
            (com.sun.management.ThreadMXBean) ManagementFactory.getThreadMXBean();

    private interface Call {
        int of(TestHouse x);
    }

    private static long made(TestHouse x, int times, Call call) {
        long before = COUNTER.getCurrentThreadAllocatedBytes();
        for (int i = 0; i < times; i++) {
            call.of(x);
        }
        return COUNTER.getCurrentThreadAllocatedBytes() - before;
    }

    private static void dueBelow(String what, long bytes, long most) {
        Checks.due(what + " makes " + bytes + " bytes, less than " + most + ":", bytes < most ? 1 : 0, 1);
    }

    /** Calls that look for much, and make nothing. */
    private static void studies(TestHouse x) {
        Call[] calls = {h -> h.run(0), h -> h.alone(0, 0), h -> h.kill(0), h -> h.least(0, -1), h -> h.property(0, 0, 200),
            h -> h.luck(0, 1), h -> h.blame(0, 2), h -> h.touch(0, 0), h -> h.linear(0), h -> h.place(0, 7), h -> h.twin(0, 1),
            h -> h.rule(0, -1, 0, false, 0), h -> h.calls(0, 0, 0), h -> h.verdict(0, 0, 0), h -> h.cover(0, 0, 0),
            h -> h.foretold(0, 0), h -> h.smaller(-77, 3), h -> h.name(0, 0, 0, 0), h -> h.swap(0, 0, 0), h -> h.drop(0)};
        for (int i = 0; i < calls.length; i++) {
            Call call = calls[i];
            made(x, 2, call);
            dueBelow("the study " + i + ", " + CALLS + " times,", made(x, CALLS, call), 1000);
        }
    }

    private static String largest() {
        StringBuilder text = new StringBuilder();
        for (int u = 0; u < 8; u++) {
            text.append("unit u").append(u).append("{row r[50];fun f(a){");
            for (int i = 0; i < 60; i++) {
                text.append("a=a;");
            }
            text.append("}test t with 1,2{}}");
        }
        return text.toString();
    }

    public static void main(String[] args) {
        long before = COUNTER.getCurrentThreadAllocatedBytes();
        TestHouse x = new TestHouse();
        dueBelow("an object", COUNTER.getCurrentThreadAllocatedBytes() - before, ROOM / 40);

        Checks.due("parcel", Checks.parcel(x, "unit u{shared s=0;fun f(a){return draw 3+a;}test one{check f(0)<2;s=1;}"
                + "test two{check draw 2;}test three{check s==0;}prop p(a,b){check a+b<50;}}"), 0);
        x.build(0, 0);
        x.history(0);
        for (int i = 0; i < 8; i++) {
            x.op(0, i < 7 ? 0 : 1, i, 0, 0, 9);
        }
        studies(x);

        TestHouse y = new TestHouse();
        long all = 0;
        for (int p = 0; p < 8; p++) {
            Checks.feed(y, largest());
            all += made(y, 1, TestHouse::parcel);
        }
        Checks.due("parcels", y.count(0, 0), 8);
        dueBelow("8 large parcels", all, ROOM / 20);

        TestHouse z = new TestHouse();
        all = 0;
        for (int n = 0; n < CALLS / 2; n++) {
            z.feed(0x756e6974, 0x20757b74, 0x65737420, 0x747b7d20, 0x20202020);
            all += made(z, 1, TestHouse::parcel);
        }
        Checks.due("parcels that are none", z.count(0, 0), 0);
        dueBelow("FAULTS in half of all calls", all, ROOM / 20);
        dueBelow("builds, histories", made(x, CALLS, h -> h.build(0, 0) + h.history(1)), ROOM / 1000);
        Checks.end("RoomTest");
    }
}
