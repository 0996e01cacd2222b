/**
 * The bounds that section 1 names for ROOMS, sentence by sentence, with what promises 1 to 4, 11 and 14 say
 * of them. What a refused call leaves as it was is in RefusedTest.
 */
public final class BoundsRoomsTest {
  /** Of each argument of addRoom: its least and its greatest. */
  private static final int[][] ARGUMENTS = {{0, 2}, {0, 60}, {0, 60}, {1, 30}, {1, 30}, {0, 3}};
  private static final String[] NAMES = {"floor", "x", "y", "w", "h", "use"};

  public static void main(String[] args) {
    argumentsAtTheirEnds();
    argumentsBeyondTheirEnds();
    greatestPlace();
    neighbours();
    insidesInCommon();
    floorsAreApart();
    twentyEver();
    refusedOnesDoNotCount();
    goneOnesCount();
    peopleAtTheirEnds();
    peopleBeyondTheirEnds();
    noSuchRoom();
    goneWithDoorsWindowsStairs();
    goneWithPeople();
    goneIsInNobodysWay();
    allGone();
    roomAtUnits();
    roomAtFarAway();
    roomAtFloors();
    Due.end();
  }

  /** An ordinary room, but for one argument. */
  private static int lay(ClerestoryPlan plan, int argument, int value) {
    int[] with = {0, 40, 40, 5, 5, 0};
    with[argument] = value;
    return plan.addRoom(with[0], with[1], with[2], with[3], with[4], with[5]);
  }

  /** Promise 2; "with x and y 0 to 60, w and h 1 to 30", the floors 0, 1 and 2, USE 0 to 3. */
  private static void argumentsAtTheirEnds() {
    for (int i = 0; i < ARGUMENTS.length; i++) {
      for (int value : ARGUMENTS[i]) {
        ClerestoryPlan plan = new ClerestoryPlan();
        Due.is("2: " + NAMES[i] + " " + value, lay(plan, i, value), 0);
        Due.is("11: " + NAMES[i] + " " + value, plan.rooms(), 1);
      }
    }
    for (int floor = 0; floor <= 2; floor++) {
      for (int use = 0; use <= 3; use++) {
        ClerestoryPlan plan = new ClerestoryPlan();
        Due.is("2: floor " + floor + ", use " + use, plan.addRoom(floor, 1, 1, 1, 1, use), 0);
      }
    }
  }

  private static void argumentsBeyondTheirEnds() {
    for (int i = 0; i < ARGUMENTS.length; i++) {
      int argument = i;
      int[] beyond = {ARGUMENTS[i][0] - 1, ARGUMENTS[i][1] + 1, Integer.MIN_VALUE, Integer.MAX_VALUE};
      for (int value : beyond) {
        ClerestoryPlan plan = new ClerestoryPlan();
        Due.badArgument("2: " + NAMES[i] + " " + value, plan, () -> lay(plan, argument, value));
        Due.is("11: none behind " + NAMES[i] + " " + value, plan.rooms(), 0);
        Due.is("2: the first number behind it", lay(plan, 0, 0), 0);
      }
    }
  }

  /** Promise 2; "from (x, y) to (x + w, y + h)", at the greatest of all. */
  private static void greatestPlace() {
    ClerestoryPlan plan = new ClerestoryPlan();
    plan.addRoom(2, 60, 60, 30, 30, 0);
    Due.is("2: its last unit", plan.roomAt(2, 89, 89), 0);
    Due.is("2: right of it", plan.roomAt(2, 90, 89), -1);
    Due.is("2: above it", plan.roomAt(2, 89, 90), -1);
    Due.is("2: beside it, also at 60", plan.addRoom(2, 60, 59, 30, 1, 0), 1);
  }

  /** Promise 2; "two ROOMS on one floor have no inside in common": sides and corners in common are allowed. */
  private static void neighbours() {
    for (int across = -1; across <= 1; across++) {
      for (int upwards = -1; upwards <= 1; upwards++) {
        if (across != 0 || upwards != 0) {
          neighbour(across, upwards);
        }
      }
    }
  }

  /** Beside the square from (10, 10) to (20, 20), there touching it, and one unit nearer. */
  private static void neighbour(int across, int upwards) {
    String what = "2: neighbour " + across + ", " + upwards;
    int x = new int[] {5, 12, 20}[across + 1];
    int y = new int[] {5, 12, 20}[upwards + 1];
    Due.is(what, square().addRoom(0, x, y, 5, 5, 0), 1);
    ClerestoryPlan plan = square();
    Due.badState(what + ", one unit in common", plan, () -> plan.addRoom(0, x - across, y - upwards, 5, 5, 0));
    if (across != 0 && upwards != 0) {
      Due.is(what + ", nearer to the right", square().addRoom(0, x - across, y, 5, 5, 0), 1);
      Due.is(what + ", nearer upwards", square().addRoom(0, x, y - upwards, 5, 5, 0), 1);
    }
  }

  private static ClerestoryPlan square() {
    ClerestoryPlan plan = new ClerestoryPlan();
    plan.addRoom(0, 10, 10, 10, 10, 0);
    return plan;
  }

  private static void insidesInCommon() {
    ClerestoryPlan plan = square();
    Due.badState("2: the same place", plan, () -> plan.addRoom(0, 10, 10, 10, 10, 0));
    Due.badState("2: within it", plan, () -> plan.addRoom(0, 14, 14, 1, 1, 0));
    Due.badState("2: within it, at its corner", plan, () -> plan.addRoom(0, 19, 10, 1, 1, 0));
    Due.badState("2: all round it", plan, () -> plan.addRoom(0, 9, 9, 12, 12, 0));
    Due.badState("2: across it", plan, () -> plan.addRoom(0, 0, 14, 30, 1, 0));
    Due.badState("2: up through it", plan, () -> plan.addRoom(0, 14, 0, 1, 30, 0));
    Due.is("2: none of these is there", plan.rooms(), 1);
  }

  private static void floorsAreApart() {
    ClerestoryPlan plan = new ClerestoryPlan();
    for (int floor = 0; floor <= 2; floor++) {
      int on = floor;
      Due.is("2: the same place on floor " + floor, plan.addRoom(floor, 10, 10, 10, 10, 0), floor);
      Due.badState("2: twice on floor " + floor, plan, () -> plan.addRoom(on, 19, 19, 1, 1, 0));
    }
  }

  /** Promise 2; "At most 20 ROOMS are ever laid, numbered from 0". */
  private static void twentyEver() {
    ClerestoryPlan plan = new ClerestoryPlan();
    for (int i = 0; i < 20; i++) {
      Due.is("2: its number", plan.addRoom(i % 3, 3 * i, 0, 3, 3, i % 4), i);
      Due.is("11: with it", plan.rooms(), i + 1);
    }
    Due.badState("2: there were 20", plan, () -> plan.addRoom(0, 60, 60, 1, 1, 0));
    Due.is("11: all rooms laid", plan.rooms(), 20);
    Due.is("4: the last one", plan.setPeople(19, 200), 0);
    Due.noSuch("4: behind the last one", plan, () -> plan.setPeople(20, 200));
  }

  private static void refusedOnesDoNotCount() {
    ClerestoryPlan plan = new ClerestoryPlan();
    for (int i = 0; i < 20; i++) {
      int x = 3 * i;
      Due.is("2: a wrong use", Due.thrownBy(() -> plan.addRoom(0, x, 9, 3, 3, 4)), "IllegalArgumentException");
      Due.is("2: its number", plan.addRoom(0, x, 0, 3, 3, 0), i);
      Due.is("2: on it", Due.thrownBy(() -> plan.addRoom(0, x, 2, 3, 3, 0)), "IllegalStateException");
    }
    Due.is("11: all the same", plan.rooms(), 20);
  }

  private static void goneOnesCount() {
    ClerestoryPlan plan = new ClerestoryPlan();
    for (int i = 0; i < 20; i++) {
      Due.is("2: the same place again", plan.addRoom(1, 7, 7, 7, 7, 0), i);
      Due.is("3: nothing in it", plan.removeRoom(i), 0);
      Due.is("11: it is GONE", plan.rooms(), 0);
    }
    Due.badState("2: there were 20, all GONE", plan, () -> plan.addRoom(1, 7, 7, 7, 7, 0));
  }

  /** Promise 4; "PEOPLE, 0 to 200 (0, at first)". */
  private static void peopleAtTheirEnds() {
    ClerestoryPlan plan = square();
    Due.is("4: 0 at first", plan.setPeople(0, 0), 0);
    Due.is("4: 200", plan.setPeople(0, 200), 0);
    Due.is("4: 200 are there", plan.left(0), 200);
    Due.is("4: 0 again", plan.setPeople(0, 0), 200);
    Due.is("4: nobody is there", plan.left(0), 0);
  }

  private static void peopleBeyondTheirEnds() {
    ClerestoryPlan plan = square();
    plan.setPeople(0, 17);
    for (int wrong : new int[] {-1, 201, Integer.MIN_VALUE, Integer.MAX_VALUE}) {
      Due.badArgument("4: people " + wrong, plan, () -> plan.setPeople(0, wrong));
      Due.is("4: as before " + wrong, plan.inRoom(0, 0), 17);
    }
    Due.is("4: told as before", plan.setPeople(0, 1), 17);
  }

  /** Promises 3 and 4: "if there is no such ROOM, or it is GONE". */
  private static void noSuchRoom() {
    ClerestoryPlan plan = square();
    plan.addRoom(0, 40, 40, 1, 1, 0);
    plan.removeRoom(1);
    for (int wrong : new int[] {-1, 1, 2, 19, 20, Integer.MIN_VALUE, Integer.MAX_VALUE}) {
      Due.noSuch("3: room " + wrong, plan, () -> plan.removeRoom(wrong));
      Due.noSuch("4: room " + wrong, plan, () -> plan.setPeople(wrong, 0));
    }
  }

  /** Promise 3; "A ROOM that is taken away is GONE, with its DOORS, WINDOWS and STAIRS": each for itself. */
  private static void goneWithDoorsWindowsStairs() {
    ClerestoryPlan out = Plans.tower();
    out.addDoor(1, -1, 0, 0, false, 1);
    Due.is("3: a door OUT", out.removeRoom(1), 1);
    Due.is("12: so there is none", out.doors(), 0);
    ClerestoryPlan from = Plans.tower();
    from.addDoor(1, 0, 10, 0, true, 1);
    Due.is("3: a door from it", from.removeRoom(1), 1);
    ClerestoryPlan to = Plans.tower();
    to.addDoor(0, 1, 10, 0, true, 1);
    to.shut(0, true);
    Due.is("3: a SHUT door to it", to.removeRoom(1), 1);
    ClerestoryPlan window = Plans.tower();
    window.addWindow(1, 0, 0, true, 1);
    Due.is("3: a window", window.removeRoom(1), 1);
    ClerestoryPlan up = Plans.tower();
    up.addStairs(1, 2, 5, 5);
    Due.is("3: stairs up", up.removeRoom(1), 1);
    Due.is("13: so there are none", up.stairs(), 0);
    ClerestoryPlan down = Plans.tower();
    down.addStairs(2, 3, 5, 5);
    Due.is("3: stairs down", down.removeRoom(3), 1);
    ClerestoryPlan others = Plans.tower();
    others.addDoor(0, -1, 20, 0, true, 1);
    others.addWindow(0, 10, 0, false, 1);
    others.addStairs(2, 3, 5, 5);
    Due.is("3: those of other rooms stay", others.removeRoom(1), 0);
    Due.is("12: the door is there", others.doors(), 1);
    Due.is("13: the stairs are there", others.stairs(), 1);
    Due.is("6: the window is there", others.addWindow(0, 11, 0, false, 1), 2);
  }

  private static void goneWithPeople() {
    ClerestoryPlan plan = square();
    plan.addRoom(0, 40, 40, 1, 1, 0);
    plan.setPeople(0, 9);
    plan.setPeople(1, 4);
    plan.removeRoom(0);
    Due.is("25: only those of the other room", plan.left(0), 4);
  }

  private static void goneIsInNobodysWay() {
    ClerestoryPlan plan = square();
    plan.removeRoom(0);
    Due.is("2: the same place", plan.addRoom(0, 10, 10, 10, 10, 0), 1);
    plan.removeRoom(1);
    Due.is("2: one unit of it", plan.addRoom(0, 19, 19, 5, 5, 0), 2);
  }

  private static void allGone() {
    ClerestoryPlan plan = Plans.tower();
    for (int room = 0; room < 4; room++) {
      plan.setPeople(room, 5);
    }
    for (int room = 3; room >= 0; room--) {
      Due.is("3: nothing in it", plan.removeRoom(room), 0);
      Due.is("11: rooms", plan.rooms(), room);
    }
    Due.is("37: as a new plan", plan.digest(), new ClerestoryPlan().digest());
    Due.is("2: but for its number", plan.addRoom(0, 0, 0, 1, 1, 0), 4);
  }

  /** Promise 14; "in the inside of which the point (x + a half, y + a half) is; -1 without one". */
  private static void roomAtUnits() {
    ClerestoryPlan plan = square();
    int[][] within = {{10, 10}, {19, 10}, {10, 19}, {19, 19}};
    for (int[] at : within) {
      Due.is("14: the unit in its corner", plan.roomAt(0, at[0], at[1]), 0);
    }
    int[][] beside = {{9, 10}, {10, 9}, {20, 10}, {19, 9}, {9, 19}, {10, 20}, {20, 19}, {19, 20}};
    for (int[] at : beside) {
      Due.is("14: the unit beside " + at[0] + ", " + at[1], plan.roomAt(0, at[0], at[1]), -1);
    }
    plan.addRoom(0, 20, 10, 1, 1, 0);
    Due.is("14: the last of the one", plan.roomAt(0, 19, 10), 0);
    Due.is("14: the first of the other", plan.roomAt(0, 20, 10), 1);
    plan.removeRoom(0);
    Due.is("14: GONE", plan.roomAt(0, 19, 10), -1);
  }

  private static void roomAtFarAway() {
    ClerestoryPlan plan = new ClerestoryPlan();
    plan.addRoom(0, 0, 0, 1, 1, 0);
    int[] far = {-1, 1, 91, Integer.MIN_VALUE, Integer.MAX_VALUE};
    for (int value : far) {
      Due.is("14: x " + value, plan.roomAt(0, value, 0), -1);
      Due.is("14: y " + value, plan.roomAt(0, 0, value), -1);
      Due.is("14: both " + value, plan.roomAt(0, value, value), -1);
    }
    Due.is("14: (0, 0)", plan.roomAt(0, 0, 0), 0);
  }

  private static void roomAtFloors() {
    ClerestoryPlan plan = new ClerestoryPlan();
    plan.addRoom(1, 5, 5, 5, 5, 0);
    Due.is("14: floor 0", plan.roomAt(0, 5, 5), -1);
    Due.is("14: floor 1", plan.roomAt(1, 5, 5), 0);
    Due.is("14: floor 2", plan.roomAt(2, 5, 5), -1);
    for (int wrong : new int[] {-1, 3, Integer.MIN_VALUE, Integer.MAX_VALUE}) {
      Due.badArgument("14: floor " + wrong, plan, () -> plan.roomAt(wrong, 5, 5));
      Due.badArgument("14: floor " + wrong + ", at none", plan, () -> plan.roomAt(wrong, -1, -1));
    }
  }
}
