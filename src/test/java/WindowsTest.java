/** Promises 6, 7 and 13: windows and stairs. */
public final class WindowsTest {
  public static void main(String[] args) {
    windowExceptions();
    windowPlaces();
    windowsWide();
    fortyWindows();
    stairsExceptions();
    stairsPoints();
    tenStairs();
    Due.end();
  }

  /** Rooms 0 and 1 side by side on the floor 0, 2 above 0, 3 above 2, 4 above 1. */
  private static ClerestoryPlan start() {
    ClerestoryPlan plan = new ClerestoryPlan();
    plan.addRoom(0, 10, 10, 10, 10, 1);
    plan.addRoom(0, 20, 14, 10, 10, 1);
    plan.addRoom(1, 12, 12, 10, 10, 1);
    plan.addRoom(2, 14, 14, 10, 10, 1);
    plan.addRoom(1, 24, 14, 4, 4, 1);
    return plan;
  }

  private static void windowExceptions() {
    ClerestoryPlan plan = start();
    for (int wrong : new int[] {-1, 5, 20, Integer.MIN_VALUE, Integer.MAX_VALUE}) {
      Due.noSuch("6: room " + wrong, plan, () -> plan.addWindow(wrong, 10, 12, true, 2));
    }
    Due.noSuch("6: no room ahead of a wrong width", plan, () -> plan.addWindow(7, 10, 12, true, 0));
    for (int wrong : new int[] {0, 7, -1, Integer.MIN_VALUE, Integer.MAX_VALUE}) {
      Due.badArgument("6: wide " + wrong, plan, () -> plan.addWindow(0, 10, 12, true, wrong));
    }
    Due.badArgument("6: a wrong width ahead of the place", plan, () -> plan.addWindow(0, 0, 0, true, 7));
    Due.badState("6: at no side", plan, () -> plan.addWindow(0, 11, 12, true, 2));
    Due.badState("6: beyond the end", plan, () -> plan.addWindow(0, 10, 19, true, 2));
    Due.badState("6: ahead of the beginning", plan, () -> plan.addWindow(0, 9, 10, false, 2));
    Due.badState("6: far away", plan, () -> plan.addWindow(0, 10, Integer.MAX_VALUE, true, 2));
    Due.is("6: none of these is there", plan.addWindow(0, 10, 12, true, 2), 2);
    plan.removeRoom(1);
    Due.noSuch("6: GONE", plan, () -> plan.addWindow(1, 30, 16, true, 2));
  }

  private static void windowPlaces() {
    ClerestoryPlan plan = start();
    Due.badState("6: along another room", plan, () -> plan.addWindow(0, 20, 15, true, 2));
    Due.badState("6: half along another room", plan, () -> plan.addWindow(0, 20, 13, true, 2));
    Due.is("6: till its corner", plan.addWindow(0, 20, 12, true, 2), 2);
    plan.addDoor(0, -1, 10, 12, true, 2);
    Due.badState("6: in common with a door", plan, () -> plan.addWindow(0, 10, 13, true, 2));
    Due.is("6: from the door's end on", plan.addWindow(0, 10, 14, true, 2), 4);
    Due.badState("6: in common with a window", plan, () -> plan.addWindow(0, 10, 15, true, 1));
    plan.shut(0, true);
    Due.badState("6: in common with a SHUT door", plan, () -> plan.addWindow(0, 10, 12, true, 1));
    plan.removeDoor(0);
    Due.is("6: with one that is GONE", plan.addWindow(0, 10, 12, true, 1), 5);
    Due.is("6: on the floor 1", plan.addWindow(2, 12, 14, true, 2), 2);
    Due.is("6: on the floor 2", plan.addWindow(3, 14, 14, false, 6), 6);
    Due.is("6: nobody goes through it", plan.isLost(0), true);
    plan.addRoom(0, 0, 10, 10, 10, 1);
    Due.badState("6: a room laid later leaves it there", plan, () -> plan.addDoor(0, 5, 10, 14, true, 1));
    Due.badState("6: and has no window there", plan, () -> plan.addWindow(5, 10, 18, true, 1));
    plan.removeRoom(5);
    Due.is("6: but once it is GONE", plan.addWindow(0, 10, 18, true, 1), 6);
    plan.removeRoom(0);
    Due.is("6: no window of a GONE room is there", plan.addRoom(0, 10, 10, 10, 10, 1), 6);
    Due.is("6: so", plan.addWindow(6, 10, 14, true, 2), 2);
  }

  private static void windowsWide() {
    ClerestoryPlan plan = start();
    Due.is("6: the first", plan.addWindow(0, 10, 10, true, 6), 6);
    Due.is("6: together", plan.addWindow(0, 10, 10, false, 5), 11);
    Due.is("6: of another room", plan.addWindow(1, 30, 15, true, 4), 4);
    Due.is("6: of the first once more", plan.addWindow(0, 10, 20, false, 1), 12);
  }

  private static void fortyWindows() {
    ClerestoryPlan plan = new ClerestoryPlan();
    plan.addRoom(1, 0, 0, 30, 30, 1);
    for (int i = 0; i < 40; i++) {
      Due.is("6: window " + i, plan.addWindow(0, i % 20, i < 20 ? 0 : 30, false, 1), i + 1);
    }
    Due.badState("6: there were 40", plan, () -> plan.addWindow(0, 0, 0, true, 1));
    Due.badArgument("6: there were 40, wide 7 ahead", plan, () -> plan.addWindow(0, 0, 0, true, 7));
    plan.removeRoom(0);
    plan.addRoom(1, 0, 0, 30, 30, 1);
    Due.badState("6: there were 40, all GONE", plan, () -> plan.addWindow(1, 0, 0, true, 1));
  }

  private static void stairsExceptions() {
    ClerestoryPlan plan = start();
    for (int wrong : new int[] {-1, 5, 20, Integer.MIN_VALUE, Integer.MAX_VALUE}) {
      Due.noSuch("7: lower " + wrong, plan, () -> plan.addStairs(wrong, 2, 15, 15));
      Due.noSuch("7: upper " + wrong, plan, () -> plan.addStairs(0, wrong, 15, 15));
    }
    Due.noSuch("7: no room ahead of the point", plan, () -> plan.addStairs(0, 5, 0, 0));
    Due.badArgument("7: the same floor", plan, () -> plan.addStairs(0, 1, 20, 15));
    Due.badArgument("7: the same room", plan, () -> plan.addStairs(0, 0, 15, 15));
    Due.badArgument("7: two floors", plan, () -> plan.addStairs(0, 3, 15, 15));
    Due.badArgument("7: down", plan, () -> plan.addStairs(2, 0, 15, 15));
    int[][] wrong = {{11, 15}, {21, 15}, {15, 11}, {15, 21}, {Integer.MIN_VALUE, 15}, {15, Integer.MAX_VALUE}};
    for (int[] at : wrong) {
      Due.badArgument("7: not in both: " + at[0] + ", " + at[1], plan,
          () -> plan.addStairs(0, 2, at[0], at[1]));
    }
    Due.is("7: none of these is there", plan.stairs(), 0);
    plan.removeRoom(3);
    Due.noSuch("7: GONE", plan, () -> plan.addStairs(2, 3, 15, 15));
  }

  private static void stairsPoints() {
    ClerestoryPlan plan = start();
    Due.is("7: at the lower left corner of both", plan.addStairs(0, 2, 12, 12), 0);
    Due.is("7: at the upper right one", plan.addStairs(0, 2, 20, 20), 1);
    Due.is("7: at the same point", plan.addStairs(0, 2, 20, 20), 2);
    Due.is("7: from the floor 1", plan.addStairs(2, 3, 22, 22), 3);
    Due.is("7: sides that only touch", plan.addStairs(1, 2, 22, 14), 4);
    Due.is("13: stairs", plan.stairs(), 5);
    plan.removeRoom(3);
    Due.is("13: stairs that are not GONE", plan.stairs(), 4);
    Due.is("7: a number is not given again", plan.addStairs(1, 4, 24, 18), 5);
  }

  private static void tenStairs() {
    ClerestoryPlan plan = start();
    for (int i = 0; i < 10; i++) {
      Due.is("7: stairs " + i, plan.addStairs(0, 2, 15, 15), i);
    }
    Due.is("23: the last ones", plan.stairsLoad(9), 0);
    Due.badState("7: there were 10", plan, () -> plan.addStairs(0, 2, 15, 15));
    Due.badArgument("7: there were 10, the point ahead", plan, () -> plan.addStairs(0, 2, 11, 15));
    plan.removeRoom(2);
    Due.is("13: all GONE", plan.stairs(), 0);
    plan.addRoom(1, 12, 12, 10, 10, 1);
    Due.badState("7: there were 10, all GONE", plan, () -> plan.addStairs(0, 5, 15, 15));
  }
}
