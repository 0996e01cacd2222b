/**
 * The bounds that section 1 names for DOORS between ROOMS, and what promises 5, 8, 9, 12 and 15 say of them.
 * Of places of DOORS that lead OUT, see BoundsOpeningsTest.
 */
public final class BoundsDoorsTest {
  private static final int[] NO_DOORS = {-1, 1, 39, 40, 100, Integer.MIN_VALUE, Integer.MAX_VALUE};

  public static void main(String[] args) {
    widths();
    noSuchRooms();
    theSameRoom();
    differentFloors();
    eachFloor();
    endsOnTheOtherSide();
    endsOnTheOwnSide();
    wholeCommonSide();
    fartherSides();
    roomsThatOnlyTouch();
    piecesInCommon();
    fortyEver();
    refusedOnesDoNotCount();
    goneOnesCount();
    notShutAsItIsPutIn();
    shutAndOpened();
    noSuchDoor();
    howManyThereAreThen();
    joined();
    joinedByTheLastDoor();
    Due.end();
  }

  /** The square from (10, 10) to (20, 20), beside it a smaller one (1) from (20, 13) to (24, 17). */
  private static ClerestoryPlan beside() {
    ClerestoryPlan plan = new ClerestoryPlan();
    plan.addRoom(0, 10, 10, 10, 10, 1);
    plan.addRoom(0, 20, 13, 4, 4, 1);
    return plan;
  }

  /** The same, but the smaller one above, from (13, 20) to (17, 24). */
  private static ClerestoryPlan above() {
    ClerestoryPlan plan = new ClerestoryPlan();
    plan.addRoom(0, 10, 10, 10, 10, 1);
    plan.addRoom(0, 13, 20, 4, 4, 1);
    return plan;
  }

  /** Along the side that both have in common, led from either of the two. */
  private static void takes(String what, int start, int wide) {
    for (int from = 0; from <= 1; from++) {
      Due.is("5: " + what + ", upwards from " + from, beside().addDoor(from, 1 - from, 20, start, true, wide), 0);
      Due.is("5: " + what + ", lying from " + from, above().addDoor(from, 1 - from, start, 20, false, wide), 0);
    }
  }

  private static void refuses(String what, int start, int wide) {
    for (int i = 0; i <= 1; i++) {
      int from = i;
      ClerestoryPlan beside = beside();
      ClerestoryPlan above = above();
      Due.badState("5: " + what + ", upwards from " + from, beside,
          () -> beside.addDoor(from, 1 - from, 20, start, true, wide));
      Due.badState("5: " + what + ", lying from " + from, above,
          () -> above.addDoor(from, 1 - from, start, 20, false, wide));
    }
  }

  /** Promise 5; "is WIDE 1 to 6". */
  private static void widths() {
    ClerestoryPlan plan = new ClerestoryPlan();
    plan.addRoom(0, 0, 0, 10, 30, 1);
    plan.addRoom(0, 10, 0, 10, 30, 1);
    int start = 0;
    for (int i = 1; i <= 6; i++) {
      Due.is("5: wide " + i, plan.addDoor(0, 1, 10, start, true, i), i - 1);
      start += i;
    }
    for (int wrong : new int[] {0, 7, -1, Integer.MIN_VALUE, Integer.MAX_VALUE}) {
      Due.badArgument("5: wide " + wrong, plan, () -> plan.addDoor(0, 1, 10, 22, true, wrong));
    }
  }

  /** Promise 5; "if there is no such ROOM, or it is GONE, or to is neither one nor -1". */
  private static void noSuchRooms() {
    ClerestoryPlan plan = beside();
    plan.addRoom(0, 40, 40, 1, 1, 1);
    plan.removeRoom(2);
    for (int wrong : new int[] {2, 3, 19, 20, -2, Integer.MIN_VALUE, Integer.MAX_VALUE}) {
      Due.noSuch("5: room " + wrong, plan, () -> plan.addDoor(wrong, 1, 20, 14, true, 1));
      Due.noSuch("5: to " + wrong, plan, () -> plan.addDoor(0, wrong, 20, 14, true, 1));
      Due.noSuch("5: both " + wrong, plan, () -> plan.addDoor(wrong, wrong, 20, 14, true, 1));
      Due.noSuch("5: OUT of " + wrong, plan, () -> plan.addDoor(wrong, -1, 20, 14, true, 1));
    }
    Due.noSuch("5: from -1", plan, () -> plan.addDoor(-1, 1, 20, 14, true, 1));
    Due.noSuch("5: from -1 to -1", plan, () -> plan.addDoor(-1, -1, 20, 14, true, 1));
    Due.is("5: to -1 is OUT", plan.addDoor(0, -1, 10, 14, true, 1), 0);
  }

  private static void theSameRoom() {
    ClerestoryPlan plan = beside();
    Due.badArgument("5: both ROOMS are the same", plan, () -> plan.addDoor(0, 0, 20, 14, true, 1));
    Due.badArgument("5: the other one twice", plan, () -> plan.addDoor(1, 1, 20, 14, true, 1));
  }

  private static void differentFloors() {
    for (int one = 0; one <= 2; one++) {
      for (int other = 0; other <= 2; other++) {
        ClerestoryPlan plan = new ClerestoryPlan();
        plan.addRoom(one, 10, 10, 10, 10, 1);
        plan.addRoom(other, 20, 10, 10, 10, 1);
        String what = "5: from the floor " + one + " to " + other;
        if (one == other) {
          Due.is(what, plan.addDoor(0, 1, 20, 14, true, 1), 0);
        } else {
          Due.badArgument(what, plan, () -> plan.addDoor(0, 1, 20, 14, true, 1));
        }
      }
    }
  }

  /** Promise 5; doors of several floors at one place. */
  private static void eachFloor() {
    ClerestoryPlan plan = new ClerestoryPlan();
    for (int floor = 0; floor <= 2; floor++) {
      plan.addRoom(floor, 10, 10, 10, 10, 1);
      plan.addRoom(floor, 20, 10, 10, 10, 1);
      Due.is("5: the same place on the floor " + floor,
          plan.addDoor(2 * floor, 2 * floor + 1, 20, 14, true, 2), floor);
    }
  }

  /** Promise 5; "if it leads to another ROOM, on one of that, too", "with both ends on that side". */
  private static void endsOnTheOtherSide() {
    takes("from the corner", 13, 2);
    takes("to the corner", 15, 2);
    refuses("from ahead of the corner", 12, 2);
    refuses("to behind the corner", 16, 2);
    refuses("till the corner", 11, 2);
    refuses("from the end on", 17, 2);
    refuses("beyond both corners", 12, 6);
    refuses("only on the greater one's side", 18, 1);
  }

  /** The corner of the room from which it leads, where the other one goes on. */
  private static void endsOnTheOwnSide() {
    ClerestoryPlan plan = new ClerestoryPlan();
    plan.addRoom(0, 10, 10, 10, 10, 1);
    plan.addRoom(0, 20, 15, 10, 10, 1);
    Due.badState("5: to behind the own corner", plan, () -> plan.addDoor(0, 1, 20, 19, true, 2));
    Due.badState("5: to behind the other's corner, led back", plan, () -> plan.addDoor(1, 0, 20, 19, true, 2));
    Due.badState("5: from ahead of the other's corner", plan, () -> plan.addDoor(0, 1, 20, 14, true, 2));
    Due.badState("5: from ahead of the own corner, led back", plan, () -> plan.addDoor(1, 0, 20, 14, true, 2));
    Due.is("5: from the one corner", plan.addDoor(0, 1, 20, 15, true, 2), 0);
    Due.is("5: to the other corner", plan.addDoor(1, 0, 20, 18, true, 2), 1);
  }

  private static void wholeCommonSide() {
    takes("as wide as the smaller side", 13, 4);
    refuses("one wider", 13, 5);
  }

  private static void fartherSides() {
    ClerestoryPlan plan = beside();
    Due.badState("5: the farther side of the one", plan, () -> plan.addDoor(0, 1, 10, 14, true, 1));
    Due.badState("5: the farther side of the other", plan, () -> plan.addDoor(0, 1, 24, 14, true, 1));
    Due.badState("5: beside the common side", plan, () -> plan.addDoor(0, 1, 19, 14, true, 1));
    Due.badState("5: across the common side", plan, () -> plan.addDoor(0, 1, 20, 14, false, 1));
    Due.badState("5: across, along the other's lower side", plan, () -> plan.addDoor(0, 1, 20, 13, false, 1));
  }

  private static void roomsThatOnlyTouch() {
    ClerestoryPlan plan = new ClerestoryPlan();
    plan.addRoom(0, 10, 10, 10, 10, 1);
    plan.addRoom(0, 20, 20, 5, 5, 1);
    plan.addRoom(0, 21, 10, 5, 5, 1);
    Due.badState("5: with a corner in common, till it", plan, () -> plan.addDoor(0, 1, 20, 19, true, 1));
    Due.badState("5: with a corner in common, from it", plan, () -> plan.addDoor(0, 1, 20, 20, true, 1));
    Due.badState("5: with a corner in common, lying", plan, () -> plan.addDoor(0, 1, 19, 20, false, 1));
    Due.badState("5: one unit apart", plan, () -> plan.addDoor(0, 2, 20, 12, true, 1));
    Due.badState("5: one unit apart, on the other's side", plan, () -> plan.addDoor(0, 2, 21, 12, true, 1));
  }

  /** Promise 5; "No two DOORS on one floor have a piece in common, longer than 0". */
  private static void piecesInCommon() {
    for (int second = 0; second <= 1; second++) {
      int from = second;
      ClerestoryPlan plan = beside();
      plan.addDoor(0, 1, 20, 14, true, 2);
      Due.badState("5: the same place", plan, () -> plan.addDoor(from, 1 - from, 20, 14, true, 2));
      Due.badState("5: its beginning", plan, () -> plan.addDoor(from, 1 - from, 20, 13, true, 2));
      Due.badState("5: its end", plan, () -> plan.addDoor(from, 1 - from, 20, 15, true, 2));
      Due.badState("5: all round it", plan, () -> plan.addDoor(from, 1 - from, 20, 13, true, 4));
      Due.is("5: till its beginning", plan.addDoor(from, 1 - from, 20, 13, true, 1), 1);
      Due.is("5: from its end on", plan.addDoor(from, 1 - from, 20, 16, true, 1), 2);
      plan.removeDoor(0);
      Due.is("5: the place of one that is GONE", plan.addDoor(from, 1 - from, 20, 14, true, 2), 3);
    }
  }

  private static ClerestoryPlan great() {
    ClerestoryPlan plan = new ClerestoryPlan();
    plan.addRoom(0, 0, 0, 30, 30, 1);
    return plan;
  }

  /** Promises 5 and 12; "At most 40 DOORS are ever put in, numbered from 0". */
  private static void fortyEver() {
    ClerestoryPlan plan = great();
    for (int i = 0; i < 40; i++) {
      Due.is("5: its number", plan.addDoor(0, -1, i % 30, i < 30 ? 0 : 30, false, 1), i);
      Due.is("12: with it", plan.doors(), i + 1);
    }
    Due.badState("5: there were 40", plan, () -> plan.addDoor(0, -1, 0, 0, true, 1));
    Due.is("8: the last one", plan.shut(39, true), false);
    Due.noSuch("8: behind the last one", plan, () -> plan.shut(40, true));
    Due.is("12: SHUT or not", plan.doors(), 40);
    Due.is("6: a window is no door", plan.addWindow(0, 0, 0, true, 1), 1);
  }

  private static void refusedOnesDoNotCount() {
    ClerestoryPlan plan = great();
    for (int i = 0; i < 40; i++) {
      int x = i % 30;
      int y = i < 30 ? 0 : 30;
      Due.is("5: no room", Due.thrownBy(() -> plan.addDoor(1, -1, x, y, false, 1)), "IndexOutOfBoundsException");
      Due.is("5: wide 0", Due.thrownBy(() -> plan.addDoor(0, -1, x, y, false, 0)), "IllegalArgumentException");
      Due.is("5: its number", plan.addDoor(0, -1, x, y, false, 1), i);
      Due.is("5: there again", Due.thrownBy(() -> plan.addDoor(0, -1, x, y, false, 1)), "IllegalStateException");
    }
    Due.is("12: all the same", plan.doors(), 40);
  }

  private static void goneOnesCount() {
    ClerestoryPlan plan = great();
    for (int i = 0; i < 40; i++) {
      Due.is("5: at the same place", plan.addDoor(0, -1, 4, 0, false, 1), i);
      Due.is("9: none is left", plan.removeDoor(i), 0);
    }
    Due.badState("5: there were 40, all GONE", plan, () -> plan.addDoor(0, -1, 4, 0, false, 1));
    Due.is("12: none", plan.doors(), 0);
  }

  /** Promise 8; "A DOOR can be SHUT (it is not as it is put in)", "Returns whether it was". */
  private static void notShutAsItIsPutIn() {
    ClerestoryPlan plan = beside();
    plan.addDoor(0, 1, 20, 14, true, 1);
    plan.addDoor(0, -1, 10, 10, true, 1);
    Due.is("8: between two rooms", plan.shut(0, false), false);
    Due.is("8: OUT", plan.shut(1, false), false);
    plan.shut(1, true);
    plan.removeDoor(1);
    plan.addDoor(0, -1, 10, 10, true, 1);
    Due.is("8: at the place of one that was SHUT", plan.shut(2, false), false);
  }

  private static void shutAndOpened() {
    ClerestoryPlan plan = beside();
    plan.addDoor(0, 1, 20, 14, true, 1);
    plan.addDoor(0, -1, 10, 10, true, 1);
    Due.is("8: it was not", plan.shut(0, true), false);
    Due.is("8: twice", plan.shut(0, true), true);
    Due.is("8: the other one was not", plan.shut(1, false), false);
    Due.is("8: opened", plan.shut(0, false), true);
    Due.is("8: opened twice", plan.shut(0, false), false);
    Due.is("12: all the same", plan.doors(), 2);
  }

  /** Promises 8 and 9: "if there is no such DOOR, or it is GONE". */
  private static void noSuchDoor() {
    ClerestoryPlan plan = great();
    plan.addDoor(0, -1, 0, 0, true, 1);
    for (int wrong : NO_DOORS) {
      Due.noSuch("8: door " + wrong, plan, () -> plan.shut(wrong, true));
      Due.noSuch("8: door " + wrong + ", opened", plan, () -> plan.shut(wrong, false));
      Due.noSuch("9: door " + wrong, plan, () -> plan.removeDoor(wrong));
    }
    plan.removeDoor(0);
    Due.noSuch("8: GONE", plan, () -> plan.shut(0, true));
    Due.noSuch("9: GONE", plan, () -> plan.removeDoor(0));
    plan.addDoor(0, -1, 0, 0, true, 1);
    plan.removeRoom(0);
    Due.noSuch("8: GONE with its room", plan, () -> plan.shut(1, true));
    Due.noSuch("9: GONE with its room", plan, () -> plan.removeDoor(1));
  }

  /** Promise 9; "Returns how many there are then": first those with odd numbers, at last door 0. */
  private static void howManyThereAreThen() {
    ClerestoryPlan plan = great();
    for (int i = 0; i < 40; i++) {
      plan.addDoor(0, -1, i % 30, i < 30 ? 0 : 30, false, 1);
    }
    for (int i = 0; i < 40; i++) {
      int door = i < 20 ? 2 * i + 1 : 2 * (39 - i);
      Due.is("9: without door " + door, plan.removeDoor(door), 39 - i);
      Due.is("12: without door " + door, plan.doors(), 39 - i);
    }
  }

  /** Promise 15; "whether a DOOR leads from the one to the other or back, SHUT or not". */
  private static void joined() {
    ClerestoryPlan plan = beside();
    plan.addRoom(0, 20, 10, 3, 3, 1);
    plan.addRoom(1, 10, 10, 10, 10, 1);
    plan.addDoor(1, 0, 20, 14, true, 1);
    plan.addDoor(2, 1, 20, 13, false, 1);
    plan.addStairs(0, 3, 11, 11);
    plan.addRoom(0, 50, 50, 1, 1, 1);
    plan.removeRoom(4);
    int[][] joined = {{0, 1}, {1, 0}, {1, 2}, {2, 1}};
    for (int[] both : joined) {
      Due.is("15: " + both[0] + " and " + both[1], plan.areJoined(both[0], both[1]), true);
    }
    int[][] apart = {{0, 2}, {2, 0}, {0, 3}, {3, 0}, {0, 0}, {1, 1}, {3, 3}};
    for (int[] both : apart) {
      Due.is("15: " + both[0] + " and " + both[1], plan.areJoined(both[0], both[1]), false);
    }
    plan.shut(0, true);
    Due.is("15: SHUT", plan.areJoined(0, 1), true);
    for (int wrong : new int[] {-1, 4, 5, 20, Integer.MIN_VALUE, Integer.MAX_VALUE}) {
      Due.noSuch("15: one " + wrong, plan, () -> plan.areJoined(wrong, 0));
      Due.noSuch("15: other " + wrong, plan, () -> plan.areJoined(0, wrong));
      Due.noSuch("15: both " + wrong, plan, () -> plan.areJoined(wrong, wrong));
    }
  }

  private static void joinedByTheLastDoor() {
    ClerestoryPlan plan = beside();
    for (int i = 0; i < 39; i++) {
      plan.addDoor(0, -1, 10, 10, false, 1);
      plan.removeDoor(i);
    }
    Due.is("5: the last one", plan.addDoor(0, 1, 20, 14, true, 1), 39);
    Due.is("15: by the last one", plan.areJoined(1, 0), true);
    plan.removeDoor(39);
    Due.is("15: GONE", plan.areJoined(1, 0), false);
  }
}
