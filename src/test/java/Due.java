import java.util.Arrays;

/** What the tests share: it counts and prints each answer that is not the one that is due. */
final class Due {
  interface Call {
    void run();
  }

  private static int wrong = 0;
  private static int asked = 0;

  private Due() {
  }

  static void is(String what, long got, long want) {
    asked++;
    if (got != want) {
      wrong++;
      System.out.println(what + " answered " + got + ", due is " + want);
    }
  }

  static void is(String what, boolean got, boolean want) {
    is(what, got ? 1 : 0, want ? 1 : 0);
  }

  static void is(String what, double got, double want) {
    asked++;
    if (Double.compare(got, want) != 0) {
      wrong++;
      System.out.println(what + " answered " + got + ", due is " + want);
    }
  }

  static void is(String what, String got, String want) {
    asked++;
    if (!got.equals(want)) {
      wrong++;
      System.out.println(what + " answered " + got + ", due is " + want);
    }
  }

  /** The plan's faults by this rule are these: where and how much, one after the other. */
  static void faults(String what, ClerestoryPlan plan, int rule, int... want) {
    int[] got = new int[2 * plan.broken(rule)];
    int at = 0;
    int faults = plan.faults();
    for (int i = 0; i < faults; i++) {
      if (plan.ruleOf(i) == rule && at + 1 < got.length) {
        got[at] = plan.whereOf(i);
        got[at + 1] = plan.howMuch(i);
        at += 2;
      }
    }
    is("27 to 31, rule " + rule + ": " + what, Arrays.toString(got), Arrays.toString(want));
  }

  /** The call throws an IndexOutOfBoundsException, and changes nothing. */
  static void noSuch(String what, ClerestoryPlan plan, Call call) {
    refuses(what, plan, "IndexOutOfBoundsException", call);
  }

  /** The call throws an IllegalArgumentException, and changes nothing. */
  static void badArgument(String what, ClerestoryPlan plan, Call call) {
    refuses(what, plan, "IllegalArgumentException", call);
  }

  /** The call throws an IllegalStateException, and changes nothing. */
  static void badState(String what, ClerestoryPlan plan, Call call) {
    refuses(what, plan, "IllegalStateException", call);
  }

  private static void refuses(String what, ClerestoryPlan plan, String want, Call call) {
    long before = plan.digest();
    is(what, thrownBy(call), want);
    is(what + ": the digest behind it", plan.digest(), before);
  }

  /** The exact class's name, as a subclass (one that the machine throws, say) is not what is due. */
  static String thrownBy(Call call) {
    try {
      call.run();
      return "nothing";
    } catch (RuntimeException e) {
      return e.getClass().getSimpleName();
    }
  }

  static void end() {
    System.out.println(asked + " answers, " + wrong + " not as due");
    if (wrong != 0) {
      System.exit(1);
    }
  }
}
