/** Plans that several tests begin with. */
final class Plans {
  private Plans() {
  }

  /**
   * Two squares of 10 side by side on the floor 0 (rooms 0 and 1), and one above the first (room 2, a hall).
   * Door 0 between them, door 1 OUT from room 1, stairs 0 in room 0.
   */
  static ClerestoryPlan pair() {
    ClerestoryPlan plan = new ClerestoryPlan();
    plan.addRoom(0, 0, 0, 10, 10, 1);
    plan.addRoom(0, 10, 0, 10, 10, 1);
    plan.addRoom(1, 0, 0, 10, 10, 1);
    plan.addDoor(0, 1, 10, 4, true, 2);
    plan.addDoor(1, -1, 20, 4, true, 1);
    plan.addStairs(0, 2, 2, 5);
    return plan;
  }

  /**
   * Four long rooms; from the middle of each the nearest way OUT is by the next one (doors 0 to 3), at the
   * end of which there is a door OUT (4 to 7), far from its own middle: all are TRAPS.
   */
  static ClerestoryPlan ring() {
    ClerestoryPlan plan = new ClerestoryPlan();
    plan.addRoom(0, 0, 9, 20, 2, 1);
    plan.addRoom(0, 9, 11, 2, 20, 1);
    plan.addRoom(0, 11, 20, 20, 2, 1);
    plan.addRoom(0, 20, 0, 2, 20, 1);
    plan.addDoor(0, 1, 9, 11, false, 2);
    plan.addDoor(1, 2, 11, 20, true, 2);
    plan.addDoor(2, 3, 20, 20, false, 2);
    plan.addDoor(3, 0, 20, 9, true, 2);
    plan.addDoor(0, -1, 18, 9, false, 1);
    plan.addDoor(1, -1, 9, 12, true, 1);
    plan.addDoor(2, -1, 12, 22, false, 1);
    plan.addDoor(3, -1, 22, 18, true, 1);
    return plan;
  }

  /** A hall on the floor 0, at (0, 0), with that width and height, and a door OUT at its lower left. */
  static ClerestoryPlan hall(int w, int h, int wide) {
    ClerestoryPlan plan = new ClerestoryPlan();
    plan.addRoom(0, 0, 0, w, h, 1);
    plan.addDoor(0, -1, 0, 0, false, wide);
    return plan;
  }
}
