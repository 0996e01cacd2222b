/** The bounds that section 1 names for STAIRS, with what promises 7 and 13 say of them. */
public final class BoundsStairsTest {
  public static void main(String[] args) {
    noSuchRooms();
    oneFloorAbove();
    sidesCounted();
    notInBoth();
    farAway();
    roomsThatTouchInOnePoint();
    twoAtOnePoint();
    tenEver();
    refusedOnesDoNotCount();
    goneOnesCount();
    doorsAreNotInTheWay();
    Due.end();
  }

  /** Room 0 from (10, 10) to (20, 20), above it room 1 from (14, 12) to (24, 22). */
  private static ClerestoryPlan shifted() {
    ClerestoryPlan plan = new ClerestoryPlan();
    plan.addRoom(0, 10, 10, 10, 10, 1);
    plan.addRoom(1, 14, 12, 10, 10, 1);
    return plan;
  }

  /** Promise 7; "if there is no such ROOM, or it is GONE", for each of both. */
  private static void noSuchRooms() {
    ClerestoryPlan plan = shifted();
    plan.addRoom(1, 40, 40, 1, 1, 1);
    plan.removeRoom(2);
    for (int wrong : new int[] {-1, 2, 3, 19, 20, Integer.MIN_VALUE, Integer.MAX_VALUE}) {
      Due.noSuch("7: lower " + wrong, plan, () -> plan.addStairs(wrong, 1, 15, 15));
      Due.noSuch("7: upper " + wrong, plan, () -> plan.addStairs(0, wrong, 15, 15));
      Due.noSuch("7: both " + wrong, plan, () -> plan.addStairs(wrong, wrong, 15, 15));
    }
  }

  /** Promise 7; "from a ROOM on a floor to one on the next floor". */
  private static void oneFloorAbove() {
    for (int lower = 0; lower <= 2; lower++) {
      for (int upper = 0; upper <= 2; upper++) {
        ClerestoryPlan plan = new ClerestoryPlan();
        plan.addRoom(lower, 10, 10, 10, 10, 1);
        plan.addRoom(upper, lower == upper ? 20 : 10, 10, 10, 10, 1);
        String what = "7: from the floor " + lower + " to " + upper;
        if (upper == lower + 1) {
          Due.is(what, plan.addStairs(0, 1, 20, 15), 0);
          Due.is("13: so", plan.stairs(), 1);
        } else {
          Due.badArgument(what, plan, () -> plan.addStairs(0, 1, 20, 15));
          Due.is("13: none", plan.stairs(), 0);
        }
      }
    }
    ClerestoryPlan plan = shifted();
    Due.badArgument("7: in one room", plan, () -> plan.addStairs(0, 0, 15, 15));
  }

  /** Promise 7; "at a point (x, y) that is in both (sides counted)". */
  private static void sidesCounted() {
    int[][] within = {{14, 12}, {20, 12}, {14, 20}, {20, 20}, {14, 15}, {20, 15}, {17, 12}, {17, 20}, {15, 13}};
    for (int[] at : within) {
      Due.is("7: at " + at[0] + ", " + at[1], shifted().addStairs(0, 1, at[0], at[1]), 0);
    }
  }

  private static void notInBoth() {
    ClerestoryPlan plan = shifted();
    int[][] beside = {{13, 15}, {21, 15}, {17, 11}, {17, 21}, {13, 11}, {21, 21}, {13, 21}, {21, 11}};
    for (int[] at : beside) {
      Due.badArgument("7: at " + at[0] + ", " + at[1], plan, () -> plan.addStairs(0, 1, at[0], at[1]));
    }
    Due.badArgument("7: only in the lower one", plan, () -> plan.addStairs(0, 1, 10, 10));
    Due.badArgument("7: only in the upper one", plan, () -> plan.addStairs(0, 1, 24, 22));
    Due.badArgument("7: in neither", plan, () -> plan.addStairs(0, 1, 0, 0));
  }

  private static void farAway() {
    ClerestoryPlan plan = shifted();
    for (int far : new int[] {-1, Integer.MIN_VALUE, Integer.MAX_VALUE, Integer.MAX_VALUE - 20}) {
      Due.badArgument("7: x " + far, plan, () -> plan.addStairs(0, 1, far, 15));
      Due.badArgument("7: y " + far, plan, () -> plan.addStairs(0, 1, 15, far));
      Due.badArgument("7: both " + far, plan, () -> plan.addStairs(0, 1, far, far));
    }
  }

  private static void roomsThatTouchInOnePoint() {
    ClerestoryPlan plan = new ClerestoryPlan();
    plan.addRoom(1, 10, 10, 10, 10, 1);
    plan.addRoom(2, 20, 20, 10, 10, 1);
    Due.badArgument("7: beside the point", plan, () -> plan.addStairs(0, 1, 20, 19));
    Due.is("7: the corner of both", plan.addStairs(0, 1, 20, 20), 0);
  }

  /** Promise 7; "two points of STAIRS can be the same". */
  private static void twoAtOnePoint() {
    ClerestoryPlan plan = shifted();
    plan.addRoom(2, 14, 12, 10, 10, 1);
    Due.is("7: the first", plan.addStairs(0, 1, 15, 15), 0);
    Due.is("7: at the same point, of the same rooms", plan.addStairs(0, 1, 15, 15), 1);
    Due.is("7: at the same point, of others", plan.addStairs(1, 2, 15, 15), 2);
    Due.is("13: three", plan.stairs(), 3);
  }

  /** Promises 7 and 13; "At most 10 STAIRS are ever put in, numbered from 0". */
  private static void tenEver() {
    ClerestoryPlan plan = shifted();
    for (int i = 0; i < 10; i++) {
      Due.is("7: their number", plan.addStairs(0, 1, 14 + i % 6, 12), i);
      Due.is("13: with them", plan.stairs(), i + 1);
    }
    Due.badState("7: there were 10", plan, () -> plan.addStairs(0, 1, 15, 15));
    Due.is("12: they are no doors", plan.doors(), 0);
  }

  private static void refusedOnesDoNotCount() {
    ClerestoryPlan plan = shifted();
    for (int i = 0; i < 10; i++) {
      Due.is("7: no room", Due.thrownBy(() -> plan.addStairs(0, 2, 15, 15)), "IndexOutOfBoundsException");
      Due.is("7: not in both", Due.thrownBy(() -> plan.addStairs(0, 1, 13, 15)), "IllegalArgumentException");
      Due.is("7: their number", plan.addStairs(0, 1, 15, 15), i);
    }
    Due.is("13: all the same", plan.stairs(), 10);
  }

  private static void goneOnesCount() {
    ClerestoryPlan plan = shifted();
    int upper = 1;
    for (int i = 0; i < 10; i++) {
      Due.is("7: at the same point", plan.addStairs(0, upper, 15, 15), i);
      Due.is("3: GONE with their upper room", plan.removeRoom(upper), 1);
      Due.is("13: none", plan.stairs(), 0);
      upper = plan.addRoom(1, 14, 12, 10, 10, 1);
    }
    int last = upper;
    Due.badState("7: there were 10, all GONE", plan, () -> plan.addStairs(0, last, 15, 15));
  }

  private static void doorsAreNotInTheWay() {
    ClerestoryPlan plan = shifted();
    plan.addDoor(0, -1, 14, 20, false, 6);
    plan.addWindow(1, 14, 12, true, 6);
    Due.is("7: at a door's and at a window's side", plan.addStairs(0, 1, 14, 20), 0);
    Due.is("7: at a window's place", plan.addStairs(0, 1, 14, 15), 1);
  }
}
