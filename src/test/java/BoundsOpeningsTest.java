/**
 * The bounds that section 1 names for the places of DOORS that lead OUT and of WINDOWS, which are like these
 * (promises 5 and 6): each test asks them of both. Of DOORS between ROOMS, see BoundsDoorsTest.
 */
public final class BoundsOpeningsTest {
  /** Puts a DOOR OUT, or a WINDOW, into a room. */
  private interface Kind {
    int put(ClerestoryPlan plan, int room, int x, int y, boolean isUp, int wide);
  }

  private static final Kind DOOR =
      (plan, room, x, y, isUp, wide) -> plan.addDoor(room, -1, x, y, isUp, wide);
  private static final Kind WINDOW =
      (plan, room, x, y, isUp, wide) -> plan.addWindow(room, x, y, isUp, wide);
  private static final Kind[] KINDS = {DOOR, WINDOW};

  /** The sides of the square from (30, 30) to (40, 40): the line of each, and 1 for upwards. */
  private static final int[][] SIDES = {{30, 1}, {40, 1}, {30, 0}, {40, 0}};

  public static void main(String[] args) {
    for (Kind kind : KINDS) {
      String name = kind == DOOR ? "5: door" : "6: window";
      widths(name, kind);
      endsOnTheSide(name, kind);
      wholeSides(name, kind);
      besideTheSide(name, kind);
      farAway(name, kind);
      alongAnotherRoom(name, kind);
      ownSideCoveredByAnother(name, kind);
      otherFloorsAndGoneRooms(name, kind);
      roomsLaidLater(name, kind);
      crossingAtACorner(name, kind);
      otherFloorsHaveTheirOwn(name, kind);
      noSuchRoom(name, kind);
      for (Kind first : KINDS) {
        piecesInCommon(name + " behind a " + (first == DOOR ? "door" : "window"), first, kind);
        goneOnes(name + " behind a " + (first == DOOR ? "door" : "window"), first, kind);
      }
    }
    shutDoorIsInTheWay();
    doorsOutOnlyOnTheFloorZero();
    windowsOnEachFloor();
    fortyWindowsEver();
    windowsTogether();
    nobodyGoesThroughWindows();
    Due.end();
  }

  private static ClerestoryPlan square(int floor) {
    ClerestoryPlan plan = new ClerestoryPlan();
    plan.addRoom(floor, 30, 30, 10, 10, 1);
    return plan;
  }

  /** Along a side, from a place of it on. */
  private static int along(Kind kind, ClerestoryPlan plan, int[] side, int start, int wide) {
    boolean isUp = side[1] == 1;
    return kind.put(plan, 0, isUp ? side[0] : start, isUp ? start : side[0], isUp, wide);
  }

  private static void takes(String what, Kind kind, ClerestoryPlan plan, int[] side, int start, int wide) {
    String thrown = Due.thrownBy(() -> along(kind, plan, side, start, wide));
    Due.is(what + " at " + start + " wide " + wide + " on " + side[0] + "/" + side[1], thrown, "nothing");
  }

  private static void refuses(String what, Kind kind, ClerestoryPlan plan, int[] side, int start, int wide) {
    Due.badState(what + " at " + start + " wide " + wide + " on " + side[0] + "/" + side[1], plan,
        () -> along(kind, plan, side, start, wide));
  }

  /** "is WIDE 1 to 6". */
  private static void widths(String name, Kind kind) {
    for (int wide = 1; wide <= 6; wide++) {
      takes(name, kind, square(0), SIDES[0], 32, wide);
    }
    for (int wide : new int[] {0, 7, -1, Integer.MIN_VALUE, Integer.MAX_VALUE}) {
      ClerestoryPlan plan = square(0);
      Due.badArgument(name + " wide " + wide, plan, () -> along(kind, plan, SIDES[0], 32, wide));
    }
  }

  /** "with both ends on that side (corners counted)". */
  private static void endsOnTheSide(String name, Kind kind) {
    for (int[] side : SIDES) {
      for (int wide : new int[] {1, 2, 6}) {
        takes(name + " from the corner", kind, square(0), side, 30, wide);
        takes(name + " to the corner", kind, square(0), side, 40 - wide, wide);
        refuses(name + " from ahead of the corner", kind, square(0), side, 29, wide);
        refuses(name + " to behind the corner", kind, square(0), side, 41 - wide, wide);
        refuses(name + " till the corner", kind, square(0), side, 30 - wide, wide);
        refuses(name + " from the end on", kind, square(0), side, 40, wide);
      }
    }
  }

  private static void wholeSides(String name, Kind kind) {
    for (int size = 1; size <= 6; size++) {
      ClerestoryPlan plan = new ClerestoryPlan();
      plan.addRoom(0, 30, 30, size, 30, 1);
      plan.addRoom(0, 0, 0, 30, size, 1);
      int wide = size;
      Due.is(name + " as wide as the side, lying " + size,
          Due.thrownBy(() -> kind.put(plan, 0, 30, 30, false, wide)), "nothing");
      Due.is(name + " as wide as the side, upwards " + size,
          Due.thrownBy(() -> kind.put(plan, 1, 0, 0, true, wide)), "nothing");
      if (wide < 6) {
        Due.badState(name + " wider than the side, lying", plan, () -> kind.put(plan, 0, 30, 60, false, wide + 1));
        Due.badState(name + " wider than the side, upwards", plan, () -> kind.put(plan, 1, 30, 0, true, wide + 1));
      }
    }
  }

  private static void besideTheSide(String name, Kind kind) {
    for (int[] side : SIDES) {
      refuses(name + " one unit less", kind, square(0), new int[] {side[0] - 1, side[1]}, 33, 2);
      refuses(name + " one unit more", kind, square(0), new int[] {side[0] + 1, side[1]}, 33, 2);
    }
    for (int start = 24; start <= 44; start += 20) {
      refuses(name + " on the line of a side, but not on it", kind, square(0), SIDES[0], start, 2);
    }
  }

  private static void farAway(String name, Kind kind) {
    int[] far = {Integer.MIN_VALUE, Integer.MIN_VALUE + 1, -1, Integer.MAX_VALUE - 6, Integer.MAX_VALUE};
    ClerestoryPlan plan = square(0);
    for (int value : far) {
      for (boolean isUp : new boolean[] {true, false}) {
        Due.badState(name + " x " + value, plan, () -> kind.put(plan, 0, value, 30, isUp, 6));
        Due.badState(name + " y " + value, plan, () -> kind.put(plan, 0, 30, value, isUp, 6));
        Due.badState(name + " both " + value, plan, () -> kind.put(plan, 0, value, value, isUp, 6));
      }
    }
  }

  /** The square, and beside one of its sides another one, from 33 to 37 along it. */
  private static ClerestoryPlan withNeighbour(int[] side) {
    ClerestoryPlan plan = square(0);
    int beside = side[0] == 30 ? 26 : 40;
    plan.addRoom(0, side[1] == 1 ? beside : 33, side[1] == 1 ? 33 : beside, 4, 4, 1);
    return plan;
  }

  /** "no other ROOM on this floor has any piece of it, longer than 0, on one of its sides". */
  private static void alongAnotherRoom(String name, Kind kind) {
    for (int[] side : SIDES) {
      takes(name + " till the other's corner", kind, withNeighbour(side), side, 31, 2);
      takes(name + " from the other's corner on", kind, withNeighbour(side), side, 37, 2);
      refuses(name + " one unit along its beginning", kind, withNeighbour(side), side, 32, 2);
      refuses(name + " one unit along its end", kind, withNeighbour(side), side, 36, 2);
      refuses(name + " within its side", kind, withNeighbour(side), side, 34, 2);
      refuses(name + " along its whole side", kind, withNeighbour(side), side, 33, 4);
      refuses(name + " beyond both its corners", kind, withNeighbour(side), side, 32, 6);
    }
  }

  private static void ownSideCoveredByAnother(String name, Kind kind) {
    ClerestoryPlan plan = withNeighbour(SIDES[1]);
    Due.badState(name + " of the smaller room", plan, () -> kind.put(plan, 1, 40, 33, true, 4));
    Due.badState(name + " of the smaller room, one unit", plan, () -> kind.put(plan, 1, 40, 36, true, 1));
    Due.is(name + " on its free side", Due.thrownBy(() -> kind.put(plan, 1, 44, 33, true, 4)), "nothing");
    Due.is(name + " across, from the common side on",
        Due.thrownBy(() -> kind.put(plan, 1, 40, 33, false, 4)), "nothing");
  }

  private static void otherFloorsAndGoneRooms(String name, Kind kind) {
    ClerestoryPlan plan = square(0);
    plan.addRoom(1, 40, 30, 10, 10, 1);
    takes(name + " along a room of another floor", kind, plan, SIDES[1], 31, 2);
    ClerestoryPlan gone = withNeighbour(SIDES[1]);
    refuses(name + " along a room", kind, gone, SIDES[1], 34, 2);
    gone.removeRoom(1);
    takes(name + " along one that is GONE", kind, gone, SIDES[1], 34, 2);
  }

  /** "as it is put in; ROOMS that are laid later change nothing of it". */
  private static void roomsLaidLater(String name, Kind kind) {
    ClerestoryPlan plan = square(0);
    plan.addDoor(0, -1, 31, 30, false, 1);
    takes(name + ", nothing beside it", kind, plan, SIDES[1], 33, 4);
    boolean isDoor = kind == DOOR;
    plan.addRoom(0, 40, 33, 4, 4, 1);
    Due.is(name + ": as many doors", plan.doors(), isDoor ? 2 : 1);
    Due.is(name + ": not joined", plan.areJoined(0, 1), false);
    if (isDoor) {
      Due.is(name + ": still OUT", plan.way(1, false), 0);
      Due.is(name + ": not back", plan.way(1, true), -1);
    }
    Due.badState(name + ": in the way of a door between both", plan,
        () -> plan.addDoor(0, 1, 40, 33, true, 1));
    Due.is(name + ": one of the later room takes it no more", Due.thrownBy(() -> kind.put(plan, 1, 40, 33, true, 1)),
        "IllegalStateException");
    Due.is(name + ": GONE with its own room alone", plan.removeRoom(1), 0);
    Due.is(name + ": with its own", plan.removeRoom(0), 2);
  }

  /** "have no piece in common ..., longer than 0". */
  private static void piecesInCommon(String name, Kind first, Kind second) {
    for (int[] side : SIDES) {
      int[][] apart = {{31, 2}, {36, 2}, {30, 1}, {39, 1}};
      for (int[] at : apart) {
        takes(name + ", apart", second, with(first, side), side, at[0], at[1]);
      }
      int[][] common = {{32, 2}, {35, 2}, {34, 1}, {33, 3}, {32, 5}, {33, 1}, {35, 1}};
      for (int[] at : common) {
        refuses(name + ", in common", second, with(first, side), side, at[0], at[1]);
      }
      for (int[] other : SIDES) {
        if (other != side) {
          takes(name + ", the same along another side", second, with(first, side), other, 33, 3);
        }
      }
    }
  }

  /** The square, with one from 33 to 36 on that side. */
  private static ClerestoryPlan with(Kind kind, int[] side) {
    ClerestoryPlan plan = square(0);
    along(kind, plan, side, 33, 3);
    return plan;
  }

  /** Two of a corner have only this point in common. */
  private static void crossingAtACorner(String name, Kind kind) {
    for (Kind first : KINDS) {
      ClerestoryPlan plan = square(0);
      along(first, plan, SIDES[0], 30, 6);
      takes(name + " across at a corner", kind, plan, SIDES[2], 30, 6);
    }
  }

  private static void otherFloorsHaveTheirOwn(String name, Kind kind) {
    for (Kind first : KINDS) {
      ClerestoryPlan plan = square(0);
      plan.addRoom(1, 30, 30, 10, 10, 1);
      plan.addWindow(1, 30, 33, true, 3);
      takes(name + " at the place of a window above", kind, plan, SIDES[0], 33, 3);
      ClerestoryPlan above = square(0);
      above.addRoom(1, 30, 30, 10, 10, 1);
      along(first, above, SIDES[0], 33, 3);
      Due.is(name + " below a window", Due.thrownBy(() -> WINDOW.put(above, 1, 30, 33, true, 3)), "nothing");
    }
  }

  /** "What is GONE is in nobody's way": a DOOR that is taken away, all with their ROOM. */
  private static void goneOnes(String name, Kind first, Kind second) {
    ClerestoryPlan plan = with(first, SIDES[0]);
    if (first == DOOR) {
      plan.removeDoor(0);
      takes(name + " that is GONE", second, plan, SIDES[0], 33, 3);
    }
    plan.removeRoom(0);
    plan.addRoom(0, 30, 30, 10, 10, 1);
    Due.is(name + " that is GONE with its room", Due.thrownBy(() -> second.put(plan, 1, 30, 33, true, 3)), "nothing");
  }

  private static void noSuchRoom(String name, Kind kind) {
    ClerestoryPlan plan = square(0);
    plan.addRoom(0, 0, 0, 1, 1, 1);
    plan.removeRoom(1);
    for (int wrong : new int[] {-1, 1, 2, 19, 20, Integer.MIN_VALUE, Integer.MAX_VALUE}) {
      Due.noSuch(name + " of room " + wrong, plan, () -> kind.put(plan, wrong, 30, 30, true, 2));
    }
  }

  private static void shutDoorIsInTheWay() {
    for (Kind kind : KINDS) {
      ClerestoryPlan plan = with(DOOR, SIDES[0]);
      plan.shut(0, true);
      refuses("5, 6: a SHUT one is in the way", kind, plan, SIDES[0], 34, 1);
    }
  }

  /** Promise 5; "OUT (only on the floor 0)". */
  private static void doorsOutOnlyOnTheFloorZero() {
    takes("5: OUT on the floor 0", DOOR, square(0), SIDES[0], 33, 2);
    for (int floor = 1; floor <= 2; floor++) {
      ClerestoryPlan plan = square(floor);
      Due.badArgument("5: OUT on the floor " + floor, plan, () -> along(DOOR, plan, SIDES[0], 33, 2));
    }
  }

  /** Promise 6; "WINDOWS are like DOORS that lead OUT (on any floor)". */
  private static void windowsOnEachFloor() {
    for (int floor = 0; floor <= 2; floor++) {
      takes("6: on the floor " + floor, WINDOW, square(floor), SIDES[0], 33, 2);
      ClerestoryPlan plan = square(floor);
      plan.addRoom(floor, 40, 30, 10, 10, 1);
      refuses("6: along another room on the floor " + floor, WINDOW, plan, SIDES[1], 33, 2);
    }
  }

  /** Promise 6; "at most 40 are ever put in": refused ones do not count, GONE ones do. */
  private static void fortyWindowsEver() {
    ClerestoryPlan plan = square(2);
    for (int i = 0; i < 40; i++) {
      int[] side = SIDES[i / 10];
      int start = 30 + i % 10;
      Due.is("6: beyond the side", Due.thrownBy(() -> along(WINDOW, plan, side, 40, 1)), "IllegalStateException");
      Due.is("6: how WIDE all are together", along(WINDOW, plan, side, start, 1), i + 1);
    }
    plan.addRoom(0, 0, 0, 9, 9, 0);
    Due.badState("6: there were 40", plan, () -> plan.addWindow(1, 0, 0, true, 1));
    Due.is("3: all of them are GONE", plan.removeRoom(0), 40);
    Due.badState("6: there were 40, all GONE", plan, () -> plan.addWindow(1, 0, 0, true, 1));
    Due.is("5: a door is no window", plan.addDoor(1, -1, 0, 0, true, 1), 0);
  }

  /** Promise 6; "how WIDE all WINDOWS of the ROOM are together then". */
  private static void windowsTogether() {
    ClerestoryPlan plan = square(0);
    plan.addRoom(0, 0, 0, 9, 9, 0);
    Due.is("6: the least", plan.addWindow(0, 30, 30, true, 1), 1);
    Due.is("6: the greatest, of another room", plan.addWindow(1, 0, 0, true, 6), 6);
    Due.is("6: the greatest", plan.addWindow(0, 30, 31, true, 6), 7);
    plan.addDoor(0, -1, 40, 30, true, 5);
    Due.is("6: without doors", plan.addWindow(0, 40, 35, true, 2), 9);
    plan.removeRoom(1);
    Due.is("6: those of its own", plan.addWindow(0, 40, 37, true, 3), 12);
  }

  /** Promise 6; "and nobody goes through them". */
  private static void nobodyGoesThroughWindows() {
    ClerestoryPlan plan = square(0);
    plan.setPeople(0, 5);
    plan.addWindow(0, 30, 30, true, 6);
    Due.is("16: a window is no way", plan.isLost(0), true);
    Due.is("25: all stay", plan.left(999), 5);
    Due.is("12: nor a door", plan.doors(), 0);
    plan.addDoor(0, -1, 40, 39, true, 1);
    Due.is("18: by the door, though it is farther", plan.leaving(0), 0);
    Due.is("19: from (70, 70) to (80, 79)", plan.middleWay(0), 19);
  }
}
