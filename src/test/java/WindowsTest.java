/** Promises 6, 7 and 13: windows and stairs. Their bounds are in BoundsOpeningsTest and BoundsStairsTest. */
public final class WindowsTest {
  public static void main(String[] args) {
    windowPlaces();
    windowsWide();
    stairsPoints();
    Due.end();
  }

  /** Rooms 0 and 1 side by side on the floor 0, 2 above 0, 3 above 2, 4 above 1. */
  private static ClerestoryPlan start() {
    ClerestoryPlan plan = new ClerestoryPlan();
    plan.addRoom(0, 10, 10, 10, 10, 1);
    plan.addRoom(0, 20, 14, 10, 10, 1);
    plan.addRoom(1, 12, 12, 10, 10, 1);
    plan.addRoom(2, 14, 14, 10, 10, 1);
    plan.addRoom(1, 24, 14, 4, 4, 1);
    return plan;
  }

  private static void windowPlaces() {
    ClerestoryPlan plan = start();
    Due.badState("6: along another room", plan, () -> plan.addWindow(0, 20, 15, true, 2));
    Due.badState("6: half along another room", plan, () -> plan.addWindow(0, 20, 13, true, 2));
    Due.is("6: till its corner", plan.addWindow(0, 20, 12, true, 2), 2);
    plan.addDoor(0, -1, 10, 12, true, 2);
    Due.badState("6: in common with a door", plan, () -> plan.addWindow(0, 10, 13, true, 2));
    Due.is("6: from the door's end on", plan.addWindow(0, 10, 14, true, 2), 4);
    Due.badState("6: in common with a window", plan, () -> plan.addWindow(0, 10, 15, true, 1));
    plan.shut(0, true);
    Due.badState("6: in common with a SHUT door", plan, () -> plan.addWindow(0, 10, 12, true, 1));
    plan.removeDoor(0);
    Due.is("6: with one that is GONE", plan.addWindow(0, 10, 12, true, 1), 5);
    Due.is("6: on the floor 1", plan.addWindow(2, 12, 14, true, 2), 2);
    Due.is("6: on the floor 2", plan.addWindow(3, 14, 14, false, 6), 6);
    Due.is("6: nobody goes through it", plan.isLost(0), true);
    plan.addRoom(0, 0, 10, 10, 10, 1);
    Due.badState("6: a room laid later leaves it there", plan, () -> plan.addDoor(0, 5, 10, 14, true, 1));
    Due.badState("6: and has no window there", plan, () -> plan.addWindow(5, 10, 18, true, 1));
    plan.removeRoom(5);
    Due.is("6: but once it is GONE", plan.addWindow(0, 10, 18, true, 1), 6);
    plan.removeRoom(0);
    Due.is("6: no window of a GONE room is there", plan.addRoom(0, 10, 10, 10, 10, 1), 6);
    Due.is("6: so", plan.addWindow(6, 10, 14, true, 2), 2);
  }

  private static void windowsWide() {
    ClerestoryPlan plan = start();
    Due.is("6: the first", plan.addWindow(0, 10, 10, true, 6), 6);
    Due.is("6: together", plan.addWindow(0, 10, 10, false, 5), 11);
    Due.is("6: of another room", plan.addWindow(1, 30, 15, true, 4), 4);
    Due.is("6: of the first once more", plan.addWindow(0, 10, 20, false, 1), 12);
  }

  private static void stairsPoints() {
    ClerestoryPlan plan = start();
    Due.is("7: at the lower left corner of both", plan.addStairs(0, 2, 12, 12), 0);
    Due.is("7: at the upper right one", plan.addStairs(0, 2, 20, 20), 1);
    Due.is("7: at the same point", plan.addStairs(0, 2, 20, 20), 2);
    Due.is("7: from the floor 1", plan.addStairs(2, 3, 22, 22), 3);
    Due.is("7: sides that only touch", plan.addStairs(1, 2, 22, 14), 4);
    Due.is("13: stairs", plan.stairs(), 5);
    plan.removeRoom(3);
    Due.is("13: stairs that are not GONE", plan.stairs(), 4);
    Due.is("7: a number is not given again", plan.addStairs(1, 4, 24, 18), 5);
  }
}
