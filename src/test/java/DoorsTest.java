/** Promises 5, 8, 9, 12 and 15: doors. Their bounds are in BoundsDoorsTest and BoundsOpeningsTest. */
public final class DoorsTest {
  private static final int NUMBER_MAX = Integer.MAX_VALUE;

  public static void main(String[] args) {
    sidesOfOne();
    sidesOfBoth();
    doorsOut();
    piecesInCommon();
    shut();
    removeDoor();
    areJoined();
    Due.end();
  }

  /** Rooms 0 and 1 side by side on the floor 0, 2 on the floor 1, 3 GONE. */
  private static ClerestoryPlan start() {
    ClerestoryPlan plan = new ClerestoryPlan();
    plan.addRoom(0, 10, 10, 10, 10, 1);
    plan.addRoom(0, 20, 14, 10, 10, 1);
    plan.addRoom(1, 10, 10, 10, 10, 1);
    plan.addRoom(0, 0, 0, 2, 2, 1);
    plan.removeRoom(3);
    return plan;
  }

  private static void sidesOfOne() {
    ClerestoryPlan plan = start();
    int[][] wrong = {
      {11, 12}, {9, 12}, {10, 9}, {10, 19}, {10, 20}, {10, 8}, {NUMBER_MAX, 12}, {10, NUMBER_MAX},
      {10, NUMBER_MAX - 1}, {10, Integer.MIN_VALUE}, {Integer.MIN_VALUE, 12}
    };
    for (int[] at : wrong) {
      Due.badState("5: upwards at " + at[0] + ", " + at[1], plan,
          () -> plan.addDoor(0, -1, at[0], at[1], true, 2));
      Due.badState("5: to the right at " + at[1] + ", " + at[0], plan,
          () -> plan.addDoor(0, -1, at[1], at[0], false, 2));
    }
    Due.is("5: from the lower corner", plan.addDoor(0, -1, 10, 10, true, 2), 0);
    Due.is("5: to the upper corner", plan.addDoor(0, -1, 10, 18, true, 2), 1);
    Due.is("5: from the left corner, below", plan.addDoor(0, -1, 10, 10, false, 6), 2);
    Due.is("5: to the right corner, above", plan.addDoor(0, -1, 14, 20, false, 6), 3);
    Due.is("5: on the right side, by the other room's corner", plan.addDoor(0, -1, 20, 12, true, 2), 4);
    Due.is("12: doors", plan.doors(), 5);
  }

  private static void sidesOfBoth() {
    ClerestoryPlan plan = start();
    Due.badState("5: half on the other room's side", plan, () -> plan.addDoor(0, 1, 20, 13, true, 2));
    Due.badState("5: on the own side alone", plan, () -> plan.addDoor(0, 1, 10, 15, true, 2));
    Due.badState("5: on the other side alone", plan, () -> plan.addDoor(0, 1, 30, 15, true, 2));
    Due.badState("5: half behind the own side", plan, () -> plan.addDoor(0, 1, 20, 19, true, 2));
    Due.badState("5: across the side", plan, () -> plan.addDoor(0, 1, 19, 16, false, 2));
    Due.is("5: from the other's corner on", plan.addDoor(0, 1, 20, 14, true, 2), 0);
    Due.is("5: to the own corner, led back", plan.addDoor(1, 0, 20, 18, true, 2), 1);
    plan.addRoom(0, 12, 20, 4, 4, 1);
    Due.is("5: lying", plan.addDoor(0, 4, 12, 20, false, 4), 2);
    plan.addRoom(1, 20, 14, 10, 10, 1);
    Due.is("5: on the floor 1", plan.addDoor(2, 5, 20, 14, true, 2), 3);
  }

  private static void doorsOut() {
    ClerestoryPlan plan = start();
    Due.badState("5: OUT along another room", plan, () -> plan.addDoor(0, -1, 20, 15, true, 2));
    Due.badState("5: OUT half along another room", plan, () -> plan.addDoor(0, -1, 20, 13, true, 2));
    Due.is("5: OUT till its corner", plan.addDoor(0, -1, 20, 12, true, 2), 0);
    Due.badState("5: OUT, half along it, beyond its end", plan, () -> plan.addDoor(1, -1, 20, 19, true, 2));
    Due.is("5: OUT from its end on", plan.addDoor(1, -1, 20, 20, true, 2), 1);
    ClerestoryPlan aside = new ClerestoryPlan();
    aside.addRoom(0, 30, 0, 10, 20, 1);
    aside.addRoom(0, 40, 4, 10, 5, 1);
    aside.addRoom(0, 0, 40, 20, 10, 1);
    aside.addRoom(0, 4, 50, 5, 10, 1);
    Due.is("5: OUT above the other one", aside.addDoor(0, -1, 40, 9, true, 2), 0);
    Due.is("5: OUT below the other one", aside.addDoor(0, -1, 40, 2, true, 2), 1);
    Due.is("5: OUT to the right of the other one", aside.addDoor(2, -1, 9, 50, false, 2), 2);
    Due.is("5: OUT to the left of the other one", aside.addDoor(2, -1, 2, 50, false, 2), 3);
    Due.badState("5: OUT along its end", aside, () -> aside.addDoor(0, -1, 40, 8, true, 1));
    Due.badState("5: OUT along its beginning", aside, () -> aside.addDoor(2, -1, 4, 50, false, 1));
    Due.is("5: a room on another floor is no matter", plan.addDoor(0, -1, 10, 12, true, 2), 2);
    plan.addRoom(0, 0, 10, 10, 10, 1);
    Due.is("5: a room laid later changes nothing", plan.way(2, false), 0);
    Due.badState("5: nor makes room", plan, () -> plan.addDoor(0, 4, 10, 13, true, 2));
    Due.is("5: beside it there is a door between both", plan.addDoor(0, 4, 10, 14, true, 2), 3);
    plan.removeRoom(1);
    Due.is("5: GONE is in nobody's way", plan.addDoor(0, -1, 20, 15, true, 2), 4);
  }

  private static void piecesInCommon() {
    ClerestoryPlan plan = start();
    plan.addDoor(0, -1, 10, 13, true, 3);
    int[][] common = {{13, 3}, {12, 2}, {15, 1}, {14, 1}, {12, 6}, {15, 5}};
    for (int[] at : common) {
      Due.badState("5: in common from " + at[0], plan, () -> plan.addDoor(0, -1, 10, at[0], true, at[1]));
    }
    Due.is("5: till its beginning", plan.addDoor(0, -1, 10, 11, true, 2), 1);
    Due.is("5: from its end on", plan.addDoor(0, -1, 10, 16, true, 2), 2);
    plan.addWindow(0, 12, 10, false, 2);
    Due.badState("5: in common with a window", plan, () -> plan.addDoor(0, -1, 13, 10, false, 2));
    Due.is("5: from the window's end on", plan.addDoor(0, -1, 14, 10, false, 2), 3);
    Due.is("5: the same numbers, the other side", plan.addDoor(0, -1, 14, 20, false, 2), 4);
    plan.addRoom(1, 0, 10, 10, 10, 1);
    Due.is("5: the same place on another floor", plan.addDoor(2, 4, 10, 13, true, 3), 5);
    plan.shut(0, true);
    Due.badState("5: a SHUT door is in the way", plan, () -> plan.addDoor(0, -1, 10, 14, true, 1));
    plan.removeDoor(0);
    Due.badState("5: now a room is there", plan, () -> plan.addDoor(1, -1, 20, 15, true, 1));
    Due.is("5: GONE is in nobody's way", plan.addDoor(0, -1, 10, 14, true, 1), 6);
  }

  private static void shut() {
    ClerestoryPlan plan = start();
    plan.addDoor(0, -1, 10, 12, true, 2);
    Due.is("8: not as it is put in", plan.shut(0, true), false);
    Due.is("8: it was", plan.shut(0, true), true);
    Due.is("8: so it is lost", plan.isLost(0), true);
    Due.is("8: it was, and is opened", plan.shut(0, false), true);
    Due.is("8: opened, it was not", plan.shut(0, false), false);
    Due.is("8: so it is not lost", plan.isLost(0), false);
    for (int wrong : new int[] {-1, 1, 40, Integer.MIN_VALUE, NUMBER_MAX}) {
      Due.noSuch("8: door " + wrong, plan, () -> plan.shut(wrong, true));
    }
    plan.removeDoor(0);
    Due.noSuch("8: GONE", plan, () -> plan.shut(0, true));
  }

  private static void removeDoor() {
    ClerestoryPlan plan = start();
    plan.addDoor(0, -1, 10, 12, true, 2);
    plan.addDoor(0, 1, 20, 15, true, 2);
    plan.addDoor(1, -1, 30, 15, true, 2);
    for (int wrong : new int[] {-1, 3, 40, Integer.MIN_VALUE, NUMBER_MAX}) {
      Due.noSuch("9: door " + wrong, plan, () -> plan.removeDoor(wrong));
    }
    plan.shut(2, true);
    plan.addStairs(0, 2, 15, 15);
    Due.is("12: stairs are no doors", plan.doors(), 3);
    Due.is("9: two are left, SHUT or not", plan.removeDoor(0), 2);
    Due.noSuch("9: GONE", plan, () -> plan.removeDoor(0));
    Due.is("9: now it is lost", plan.isLost(0), true);
    Due.is("9: one is left", plan.removeDoor(2), 1);
    Due.is("9: none is left", plan.removeDoor(1), 0);
    Due.is("9: its number is not given again", plan.addDoor(0, -1, 10, 12, true, 2), 3);
  }

  private static void areJoined() {
    ClerestoryPlan plan = start();
    plan.addDoor(0, -1, 10, 12, true, 2);
    plan.addStairs(0, 2, 15, 15);
    Due.is("15: no door", plan.areJoined(0, 1), false);
    plan.addDoor(0, 1, 20, 15, true, 2);
    Due.is("15: there", plan.areJoined(0, 1), true);
    Due.is("15: and back", plan.areJoined(1, 0), true);
    Due.is("15: SHUT or not", plan.shut(1, true) || !plan.areJoined(0, 1), false);
    Due.is("15: by stairs they are not", plan.areJoined(0, 2), false);
    Due.is("15: with itself", plan.areJoined(0, 0), false);
    for (int wrong : new int[] {-1, 3, 4, 20, Integer.MIN_VALUE, NUMBER_MAX}) {
      Due.noSuch("15: one " + wrong, plan, () -> plan.areJoined(wrong, 0));
      Due.noSuch("15: other " + wrong, plan, () -> plan.areJoined(0, wrong));
    }
    plan.removeDoor(1);
    Due.is("15: GONE", plan.areJoined(0, 1), false);
  }
}
