import java.lang.management.ManagementFactory;

/** A run of 512 of the dearest calls fits well into the room of 7.3 million fields and elements. */
public final class RoomTest {
    /** Fewer bytes than 7.3 million elements of one byte, so no count of the elements can be above it. */
    private static final long BYTES_MOST = 7300000L;
    private static final Check check = new Check();

    public static void main(String[] args) {
        for (int which = 0; which < 8; which++) {
            measure(which);
        }
        check.end();
    }

    private static void measure(int which) {
        com.sun.management.ThreadMXBean threads =
            (com.sun.management.ThreadMXBean) ManagementFactory.getThreadMXBean();
        long thread = Thread.currentThread().getId();
        long before = threads.getThreadAllocatedBytes(thread);
        PayrollRun run = new PayrollRun();
        prepare(run, which);
        for (int i = run.closed(); i < 512 - 30; i++) {
            dearCall(run, which, i);
        }
        long bytes = threads.getThreadAllocatedBytes(thread) - before;
        System.out.println("way " + which + " makes " + bytes + " bytes");
        check.same("room for way " + which + ": " + bytes, bytes < BYTES_MOST ? 1 : 0, 1);
    }

    private static void prepare(PayrollRun run, int which) {
        run.salary(0, 0, 5000);
        run.setRate(0, 100);
        run.bracket(100, 300);
        run.share(0, 100, 99999);
        for (int month = 0; which > 1 && month < 11; month++) {
            run.setRate(1, 10 + month);
            run.closeMonth();
        }
    }

    private static void dearCall(PayrollRun run, int which, int i) {
        switch (which) {
            case 0: run.closeMonth(); run.newYear(); break;
            case 1: run.projected(i % 3); break;
            case 2: run.letter(0, 10, i); break;
            case 3: run.preview(0); break;
            case 4: if (i % 2 == 0) { run.closeMonth(); } else { run.undo(); } break;
            case 5: run.statement(0, i); break;
            case 6: run.leastSalary(0, i); break;
            default: if (i % 2 == 0) { run.save(); } else { run.restore(); } break;
        }
    }
}
