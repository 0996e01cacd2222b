import com.sun.management.ThreadMXBean;
import java.lang.management.ManagementFactory;

/**
 * What a plan and its calls make is kept small: rows are made with the plan, and used again by each call. With
 * those that build the ring, it is asked 508 calls, as it is used for at most 512.
 */
public final class SmallTest {
  private static final ThreadMXBean THREADS = (ThreadMXBean) ManagementFactory.getThreadMXBean();

  public static void main(String[] args) {
    calls(Plans.ring());
    ClerestoryPlan plan = Plans.ring();
    long before = made();
    calls(plan);
    Due.is("496 calls make less than 1000 bytes", made() - before < 1000, true);
    before = made();
    new ClerestoryPlan();
    Due.is("a new plan makes less than 10000 bytes", made() - before < 10000, true);
    Due.end();
  }

  private static long made() {
    return THREADS.getThreadAllocatedBytes(Thread.currentThread().getId());
  }

  private static void calls(ClerestoryPlan plan) {
    for (int i = 0; i < 62; i++) {
      plan.shut(7, i % 2 == 0);
      plan.setPeople(i % 4, i);
      plan.digest();
      plan.faultsWith(i % 8);
      plan.lostWithout(i % 8);
      plan.timeWith(i % 8, 3);
      plan.meanWay();
      plan.left(999);
    }
  }
}
