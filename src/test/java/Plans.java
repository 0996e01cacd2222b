/** Plans that several tests begin with. */
final class Plans {
  private Plans() {
  }

  /**
   * Two squares of 10 side by side on the floor 0 (rooms 0 and 1), and one above the first (room 2, a hall).
   * Door 0 between them, door 1 OUT from room 1, stairs 0 in room 0.
   */
  static ClerestoryPlan pair() {
    ClerestoryPlan plan = new ClerestoryPlan();
    plan.addRoom(0, 0, 0, 10, 10, 1);
    plan.addRoom(0, 10, 0, 10, 10, 1);
    plan.addRoom(1, 0, 0, 10, 10, 1);
    plan.addDoor(0, 1, 10, 4, true, 2);
    plan.addDoor(1, -1, 20, 4, true, 1);
    plan.addStairs(0, 2, 2, 5);
    return plan;
  }

  /**
   * Four long rooms; from the middle of each the nearest way OUT is by the next one (doors 0 to 3), at the
   * end of which there is a door OUT (4 to 7), far from its own middle: all are TRAPS.
   */
  static ClerestoryPlan ring() {
    ClerestoryPlan plan = new ClerestoryPlan();
    plan.addRoom(0, 0, 9, 20, 2, 1);
    plan.addRoom(0, 9, 11, 2, 20, 1);
    plan.addRoom(0, 11, 20, 20, 2, 1);
    plan.addRoom(0, 20, 0, 2, 20, 1);
    plan.addDoor(0, 1, 9, 11, false, 2);
    plan.addDoor(1, 2, 11, 20, true, 2);
    plan.addDoor(2, 3, 20, 20, false, 2);
    plan.addDoor(3, 0, 20, 9, true, 2);
    plan.addDoor(0, -1, 18, 9, false, 1);
    plan.addDoor(1, -1, 9, 12, true, 1);
    plan.addDoor(2, -1, 12, 22, false, 1);
    plan.addDoor(3, -1, 22, 18, true, 1);
    return plan;
  }

  /**
   * Four squares of 10 without doors: rooms 0 and 1 on the floor 0 (0 to the right of 1), room 2 on the floor 1
   * above room 1, and room 3 on the floor 2 above that.
   */
  static ClerestoryPlan tower() {
    ClerestoryPlan plan = new ClerestoryPlan();
    plan.addRoom(0, 10, 0, 10, 10, 1);
    plan.addRoom(0, 0, 0, 10, 10, 1);
    plan.addRoom(1, 0, 0, 10, 10, 1);
    plan.addRoom(2, 0, 0, 10, 10, 1);
    return plan;
  }

  /** Rooms of 3 by 3 in a row, so many; each leads to the one ahead of it, the first one OUT, 1 wide. */
  static ClerestoryPlan row(int rooms) {
    ClerestoryPlan plan = new ClerestoryPlan();
    for (int i = 0; i < rooms; i++) {
      plan.addRoom(0, 3 * i, 0, 3, 3, 1);
      plan.addDoor(i, i - 1, 3 * i, 1, true, 1);
    }
    return plan;
  }

  /**
   * Two long rooms, one above the other on the floor 0: from the middle of each the nearest way OUT is through
   * the other one (by door 0 and by door 1), as its own door OUT (2 and 3) is at its end: both are TRAPS.
   */
  static ClerestoryPlan trap() {
    ClerestoryPlan plan = new ClerestoryPlan();
    plan.addRoom(0, 0, 0, 20, 2, 1);
    plan.addRoom(0, 10, 2, 20, 2, 1);
    plan.addDoor(0, 1, 10, 2, false, 1);
    plan.addDoor(1, 0, 19, 2, false, 1);
    plan.addDoor(0, -1, 20, 0, true, 1);
    plan.addDoor(1, -1, 10, 3, true, 1);
    return plan;
  }

  /** A hall on the floor 0, at (0, 0), with that width and height, and a door OUT at its lower left. */
  static ClerestoryPlan hall(int w, int h, int wide) {
    ClerestoryPlan plan = new ClerestoryPlan();
    plan.addRoom(0, 0, 0, w, h, 1);
    plan.addDoor(0, -1, 0, 0, false, wide);
    return plan;
  }

  /**
   * Ten squares of 6 in a row on the floor 0, and ten above them, each with 200 PEOPLE. Each below has two doors
   * OUT (2 i and 2 i + 1) and two to the next one (20 + 2 i and 21 + 2 i); above only 10 and 11 have two (38 and
   * 39). Each has two windows; stairs lead from the middle of each below to that of the one above.
   */
  static ClerestoryPlan full() {
    ClerestoryPlan plan = new ClerestoryPlan();
    for (int i = 0; i < 20; i++) {
      plan.addRoom(i / 10, 6 * (i % 10), 0, 6, 6, 1);
      plan.setPeople(i, 200);
    }
    for (int i = 0; i < 10; i++) {
      plan.addDoor(i, -1, 6 * i, 0, false, 1);
      plan.addDoor(i, -1, 6 * i + 1, 0, false, 1);
      plan.addStairs(i, 10 + i, 6 * i + 3, 3);
    }
    for (int i = 0; i < 9; i++) {
      plan.addDoor(i, i + 1, 6 * i + 6, 0, true, 1);
      plan.addDoor(i + 1, i, 6 * i + 6, 1, true, 1);
    }
    plan.addDoor(10, 11, 6, 0, true, 1);
    plan.addDoor(11, 10, 6, 1, true, 1);
    for (int i = 0; i < 20; i++) {
      plan.addWindow(i, 6 * (i % 10), 6, false, 1);
      plan.addWindow(i, 6 * (i % 10) + 1, 6, false, 1);
    }
    return plan;
  }
}
