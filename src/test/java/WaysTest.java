/** Promises 16 to 23: ways, leavings, loads; lengths are in halves. Their bounds are in BoundsWaysTest. */
public final class WaysTest {
  public static void main(String[] args) {
    pair();
    lost();
    oneDoorAfterAnother();
    noTurningRound();
    throughTheSameAgain();
    halvesOfTheMiddle();
    farthestCorner();
    smallestNumber();
    doorsAheadOfStairs();
    traps();
    openedRing();
    Due.end();
  }

  private static void pair() {
    ClerestoryPlan plan = Plans.pair();
    Due.is("21: from (20, 10) to (40, 9)", plan.way(0, false), 21);
    Due.is("21: back, only stairs to a room without another exit", plan.way(0, true), -1);
    Due.is("21: OUT", plan.way(1, false), 0);
    Due.is("21: OUT, back", plan.way(1, true), -1);
    int[] far = {51, 31, 83};
    int[] leavings = {0, 1, 100};
    int[] middle = {31, 11, 63};
    int[] depths = {2, 1, 3};
    for (int room = 0; room < 3; room++) {
      Due.is("16: room " + room, plan.isLost(room), false);
      Due.is("17: room " + room, plan.farWay(room), far[room]);
      Due.is("18: room " + room, plan.leaving(room), leavings[room]);
      Due.is("19: room " + room, plan.middleWay(room), middle[room]);
      Due.is("20: room " + room, plan.depth(room), depths[room]);
    }
    Due.is("22: nobody is there", plan.load(0), 0);
    plan.setPeople(0, 5);
    plan.setPeople(1, 7);
    plan.setPeople(2, 11);
    Due.is("22: those of two rooms", plan.load(0), 16);
    Due.is("22: those of all", plan.load(1), 23);
    Due.is("23: those from above", plan.stairsLoad(0), 11);
  }

  private static void lost() {
    ClerestoryPlan plan = Plans.pair();
    plan.setPeople(0, 5);
    plan.setPeople(1, 6);
    plan.shut(0, true);
    for (int room : new int[] {0, 2}) {
      Due.is("16: lost " + room, plan.isLost(room), true);
      Due.is("17: lost " + room, plan.farWay(room), -1);
      Due.is("18: lost " + room, plan.leaving(room), -1);
      Due.is("19: lost " + room, plan.middleWay(room), -1);
      Due.is("20: lost " + room, plan.depth(room), -1);
    }
    Due.is("16: room 1 is not", plan.isLost(1), false);
    Due.is("21: SHUT", plan.way(0, false), -1);
    Due.is("21: SHUT, back", plan.way(0, true), -1);
    Due.is("22: SHUT", plan.load(0), 0);
    Due.is("22: without those that are lost", plan.load(1), 6);
    plan.shut(0, false);
    Due.is("16: opened again", plan.isLost(2), false);
    plan.removeDoor(1);
    Due.is("16: all are lost", plan.isLost(1), true);
    Due.is("21: open, but without a way", plan.way(0, false), -1);
  }

  /** Three rooms in a row, with a way OUT at each end. */
  private static void oneDoorAfterAnother() {
    ClerestoryPlan plan = new ClerestoryPlan();
    plan.addRoom(0, 0, 0, 4, 4, 1);
    plan.addRoom(0, 4, 0, 4, 4, 1);
    plan.addRoom(0, 8, 0, 4, 4, 1);
    plan.addDoor(1, 0, 4, 1, true, 2);
    plan.addDoor(1, 2, 8, 0, true, 1);
    plan.addDoor(0, -1, 0, 0, true, 2);
    plan.addDoor(2, -1, 12, 3, true, 1);
    Due.is("21: from (8, 4) to (0, 2)", plan.way(0, false), 10);
    Due.is("21: from (16, 1) to (24, 7)", plan.way(1, false), 14);
    Due.is("21: back, (8, 4), (16, 1), (24, 7)", plan.way(0, true), 25);
    Due.is("21: back, (16, 1), (8, 4), (0, 2)", plan.way(1, true), 21);
    Due.is("18: the middle room", plan.leaving(1), 0);
    Due.is("19: the middle room", plan.middleWay(1), 14);
    Due.is("17: from (16, 8)", plan.farWay(1), 21);
    plan.shut(2, true);
    Due.is("18: the middle room, if the left one is SHUT", plan.leaving(1), 1);
    Due.is("19: the middle room, if the left one is SHUT", plan.middleWay(1), 21);
    Due.is("20: the left room, then", plan.depth(0), 3);
    Due.is("21: into the left room, then", plan.way(0, false), -1);
  }

  private static void noTurningRound() {
    ClerestoryPlan plan = Plans.hall(4, 4, 2);
    plan.addRoom(0, 4, 0, 4, 4, 1);
    plan.addDoor(0, 1, 4, 1, true, 2);
    Due.is("21: into a room without another exit", plan.way(1, false), -1);
    Due.is("21: out of it", plan.way(1, true), 10);
    plan.addRoom(1, 0, 0, 4, 4, 1);
    plan.addStairs(0, 2, 0, 0);
    plan.addStairs(1, 2, 4, 0);
    Due.is("21: up and down, as there are two stairs", plan.way(1, false), 4 + 20 + 8 + 20 + 2);
    Due.is("18: nobody does, if it is nearer at once", plan.leaving(0), 0);
    Due.is("18: the upper room, by the first", plan.leaving(2), 100);
    Due.is("19: the upper room", plan.middleWay(2), 8 + 20 + 2);
  }

  /** Behind room 0 a ring of the rooms 1, 2, 3: who goes in there comes round, and through door 0 again. */
  private static void throughTheSameAgain() {
    ClerestoryPlan plan = new ClerestoryPlan();
    plan.addRoom(0, 0, 0, 4, 4, 1);
    plan.addRoom(0, 4, 0, 4, 4, 1);
    plan.addRoom(0, 4, 4, 4, 4, 1);
    plan.addRoom(0, 8, 0, 4, 8, 1);
    plan.addDoor(0, 1, 4, 1, true, 2);
    plan.addDoor(1, 2, 5, 4, false, 2);
    plan.addDoor(2, 3, 8, 5, true, 2);
    plan.addDoor(3, 1, 8, 1, true, 2);
    plan.addDoor(0, -1, 0, 1, true, 2);
    Due.is("21: round and out", plan.way(0, false), 40);
    Due.is("21: straight out", plan.way(0, true), 8);
    Due.is("21: round, the other way", plan.way(1, false), 8 + 8 + 8 + 8);
    Due.is("21: a tie in the ring", plan.way(1, true), 16);
    plan.shut(2, true);
    Due.is("21: no ring any more", plan.way(0, false), -1);
  }

  private static void halvesOfTheMiddle() {
    ClerestoryPlan plan = Plans.hall(5, 3, 1);
    Due.is("19: from (5, 3) to (1, 0)", plan.middleWay(0), 7);
    Due.is("17: from (10, 6) to (1, 0)", plan.farWay(0), 15);
    plan.addDoor(0, -1, 5, 0, true, 2);
    Due.is("19: from (5, 3) to (10, 2)", plan.middleWay(0), 6);
    Due.is("18: so", plan.leaving(0), 1);
  }

  private static void farthestCorner() {
    ClerestoryPlan plan = new ClerestoryPlan();
    plan.addRoom(0, 10, 20, 8, 6, 1);
    int[][] doors = {{10, 20, 0}, {16, 20, 0}, {10, 26, 0}, {16, 26, 0}};
    for (int i = 0; i < 4; i++) {
      plan.addDoor(0, -1, doors[i][0], doors[i][1], false, 2);
      Due.is("17: from the corner across", plan.farWay(0), 14 + 12);
      plan.removeDoor(i);
    }
    for (int i = 0; i < 4; i++) {
      plan.addDoor(0, -1, doors[i][0], doors[i][1], false, 2);
    }
    Due.is("17: each corner by its nearest", plan.farWay(0), 2);
    plan.shut(6, true);
    Due.is("17: from the one whose door is SHUT", plan.farWay(0), 14);
  }

  private static void smallestNumber() {
    ClerestoryPlan plan = new ClerestoryPlan();
    plan.addRoom(0, 0, 0, 10, 10, 1);
    plan.addDoor(0, -1, 10, 4, true, 2);
    plan.addDoor(0, -1, 0, 4, true, 2);
    Due.is("18: of several the smallest number", plan.leaving(0), 0);
    plan.removeDoor(0);
    plan.addDoor(0, -1, 10, 4, true, 2);
    Due.is("18: of 1 and 2", plan.leaving(0), 1);
    plan.shut(1, true);
    Due.is("18: SHUT, it is 2", plan.leaving(0), 2);
    ClerestoryPlan up = new ClerestoryPlan();
    up.addRoom(0, 0, 0, 10, 10, 1);
    up.addRoom(1, 0, 0, 10, 10, 1);
    up.addDoor(0, -1, 4, 0, false, 2);
    up.addStairs(0, 1, 2, 5);
    up.addStairs(0, 1, 8, 5);
    up.addStairs(0, 1, 2, 5);
    Due.is("18: of stairs the smallest number", up.leaving(1), 100);
    up.setPeople(1, 4);
    Due.is("23: so the first has the load", up.stairsLoad(0), 4);
    Due.is("23: and the second has none", up.stairsLoad(1), 0);
  }

  private static void doorsAheadOfStairs() {
    ClerestoryPlan plan = new ClerestoryPlan();
    plan.addRoom(0, 0, 0, 20, 10, 1);
    plan.addRoom(1, 0, 0, 10, 10, 1);
    plan.addRoom(1, 10, 0, 10, 10, 1);
    plan.addStairs(0, 1, 5, 5);
    plan.addStairs(0, 2, 12, 5);
    plan.addDoor(0, -1, 20, 4, true, 2);
    plan.addDoor(1, 2, 10, 4, true, 2);
    Due.is("19: by the stairs or by the door", plan.middleWay(1), 50);
    Due.is("18: by the door", plan.leaving(1), 1);
    plan.shut(1, true);
    Due.is("19: by the stairs it is as far", plan.middleWay(1), 50);
    Due.is("18: by the stairs", plan.leaving(1), 100);
    Due.is("20: there are fewer to go through", plan.depth(1), 2);
  }

  private static void traps() {
    ClerestoryPlan plan = Plans.ring();
    plan.addRoom(0, 0, 7, 4, 2, 1);
    plan.addDoor(4, 0, 1, 9, false, 2);
    for (int room = 0; room < 5; room++) {
      plan.setPeople(room, 10 + room);
      Due.is("16: a trap is not lost: " + room, plan.isLost(room), false);
      Due.is("20: a trap: " + room, plan.depth(room), -1);
      Due.is("18: a trap has a leaving: " + room, plan.leaving(room), room < 4 ? room : 8);
    }
    Due.is("19: from (20, 20) by (20, 22) to (18, 25)", plan.middleWay(0), 7);
    Due.is("17: a trap has a far way", plan.farWay(0) > 0, true);
    for (int door = 0; door < 9; door++) {
      Due.is("22: no load of traps: " + door, plan.load(door), 0);
    }
  }

  /** Without its own door OUT the last room's end is no way out, and the one ahead of it goes by its own. */
  private static void openedRing() {
    ClerestoryPlan plan = Plans.ring();
    for (int room = 0; room < 4; room++) {
      plan.setPeople(room, 10 + room);
    }
    plan.shut(7, true);
    int[] leavings = {0, 1, 6, 3};
    int[] depths = {3, 2, 1, 4};
    for (int room = 0; room < 4; room++) {
      Due.is("18: opened ring " + room, plan.leaving(room), leavings[room]);
      Due.is("20: opened ring " + room, plan.depth(room), depths[room]);
    }
    int[] loads = {23, 34, 0, 13, 0, 0, 46, 0};
    for (int door = 0; door < 8; door++) {
      Due.is("22: opened ring " + door, plan.load(door), loads[door]);
    }
  }
}
