/** Promises 1 to 4, 11 and 14: a new plan, rooms, their people. */
public final class RoomsTest {
  public static void main(String[] args) {
    newPlan();
    addRoomTakes();
    addRoomRefuses();
    addRoomInside();
    twentyRooms();
    removeRoom();
    setPeople();
    roomAt();
    Due.end();
  }

  private static void newPlan() {
    ClerestoryPlan plan = new ClerestoryPlan();
    Due.is("1: rooms", plan.rooms(), 0);
    Due.is("1: doors", plan.doors(), 0);
    Due.is("1: stairs", plan.stairs(), 0);
    Due.is("1: faults", plan.faults(), 0);
    Due.is("1: timeOut", plan.timeOut(), 0);
    Due.is("1: meanWay", plan.meanWay(), 0.0);
    Due.noSuch("1: there is no room 0", plan, () -> plan.removeRoom(0));
    ClerestoryPlan other = new ClerestoryPlan();
    other.addRoom(0, 0, 0, 1, 1, 0);
    other.setLimit(3, 7);
    Due.is("1: another plan's room", plan.rooms(), 0);
    Due.is("1: another plan's limit", plan.setLimit(3, 4), 4);
  }

  private static void addRoomTakes() {
    ClerestoryPlan plan = new ClerestoryPlan();
    Due.is("2: the least of all", plan.addRoom(0, 0, 0, 1, 1, 0), 0);
    Due.is("2: the greatest of all", plan.addRoom(2, 60, 60, 30, 30, 3), 1);
    Due.is("2: another floor", plan.addRoom(1, 60, 60, 30, 30, 2), 2);
    Due.is("2: beside", plan.addRoom(2, 30, 60, 30, 30, 1), 3);
    Due.is("2: only a corner in common", plan.addRoom(2, 30, 30, 30, 30, 1), 4);
    Due.is("11: rooms", plan.rooms(), 5);
  }

  private static void addRoomRefuses() {
    ClerestoryPlan plan = new ClerestoryPlan();
    plan.addRoom(0, 0, 0, 1, 1, 0);
    int[][] wrong = {
      {-1, 9, 9, 1, 1, 0}, {3, 9, 9, 1, 1, 0}, {0, -1, 9, 1, 1, 0}, {0, 61, 9, 1, 1, 0},
      {0, 9, -1, 1, 1, 0}, {0, 9, 61, 1, 1, 0}, {0, 9, 9, 0, 1, 0}, {0, 9, 9, 31, 1, 0},
      {0, 9, 9, 1, 0, 0}, {0, 9, 9, 1, 31, 0}, {0, 9, 9, 1, 1, -1}, {0, 9, 9, 1, 1, 4},
      {Integer.MIN_VALUE, 9, 9, 1, 1, 0}, {0, Integer.MAX_VALUE, 9, 1, 1, 0},
      {0, 9, Integer.MIN_VALUE, 1, 1, 0}, {0, 9, 9, Integer.MAX_VALUE, 1, 0},
      {0, 9, 9, 1, Integer.MAX_VALUE, 0}, {0, 9, 9, 1, 1, Integer.MAX_VALUE},
      {0, 0, 0, 1, 1, 4}
    };
    for (int[] at : wrong) {
      Due.badArgument("2: addRoom " + java.util.Arrays.toString(at), plan,
          () -> plan.addRoom(at[0], at[1], at[2], at[3], at[4], at[5]));
    }
    Due.is("2: the next number behind them", plan.addRoom(0, 9, 9, 1, 1, 0), 1);
  }

  private static void addRoomInside() {
    ClerestoryPlan plan = new ClerestoryPlan();
    plan.addRoom(0, 10, 10, 10, 10, 0);
    int[][] inside = {{10, 10, 10, 10}, {12, 12, 2, 2}, {5, 5, 30, 30}, {19, 19, 5, 5}, {5, 5, 6, 6},
        {0, 12, 30, 1}, {19, 5, 1, 6}};
    for (int[] at : inside) {
      Due.badState("2: inside " + at[0] + ", " + at[1], plan,
          () -> plan.addRoom(0, at[0], at[1], at[2], at[3], 0));
    }
    int[][] beside = {{20, 10, 5, 5}, {5, 10, 5, 10}, {10, 20, 10, 1}, {10, 9, 10, 1}, {20, 20, 1, 1}};
    for (int i = 0; i < beside.length; i++) {
      int[] at = beside[i];
      Due.is("2: beside " + at[0] + ", " + at[1], plan.addRoom(0, at[0], at[1], at[2], at[3], 0), i + 1);
    }
    plan.removeRoom(0);
    Due.is("2: GONE is in nobody's way", plan.addRoom(0, 12, 12, 2, 2, 0), 6);
  }

  private static void twentyRooms() {
    ClerestoryPlan plan = new ClerestoryPlan();
    for (int i = 0; i < 20; i++) {
      Due.is("2: room " + i, plan.addRoom(i % 3, i, i, 1, 1, i % 4), i);
    }
    Due.badState("2: there were 20", plan, () -> plan.addRoom(0, 40, 40, 1, 1, 0));
    plan.removeRoom(19);
    plan.removeRoom(3);
    Due.badState("2: there were 20, two GONE", plan, () -> plan.addRoom(0, 40, 40, 1, 1, 0));
    Due.badArgument("2: there were 20, a wrong use ahead", plan, () -> plan.addRoom(0, 40, 40, 1, 1, 4));
    Due.is("11: rooms that are not GONE", plan.rooms(), 18);
  }

  private static void removeRoom() {
    ClerestoryPlan plan = Plans.pair();
    plan.addWindow(0, 0, 2, true, 1);
    plan.addWindow(0, 0, 3, true, 1);
    plan.addWindow(1, 12, 0, false, 1);
    for (int wrong : new int[] {-1, 3, 20, Integer.MIN_VALUE, Integer.MAX_VALUE}) {
      Due.noSuch("3: removeRoom " + wrong, plan, () -> plan.removeRoom(wrong));
    }
    Due.is("3: a door, two windows, stairs", plan.removeRoom(0), 4);
    Due.is("3: rooms", plan.rooms(), 2);
    Due.is("3: doors", plan.doors(), 1);
    Due.is("3: stairs", plan.stairs(), 0);
    Due.noSuch("3: GONE", plan, () -> plan.removeRoom(0));
    Due.noSuch("3: its door is GONE", plan, () -> plan.load(0));
    Due.noSuch("3: its stairs are GONE", plan, () -> plan.stairsLoad(0));
    Due.is("3: its windows are GONE, the other one is not", plan.addWindow(1, 14, 0, false, 1), 2);
    Due.is("3: what leads to it is GONE, too", Plans.pair().removeRoom(1), 2);
    Due.is("3: from above", Plans.pair().removeRoom(2), 1);
    Due.is("3: its number is not given again", plan.addRoom(0, 0, 0, 1, 1, 0), 3);
    Due.is("3: nothing of its own", plan.removeRoom(3), 0);
    plan.removeDoor(1);
    Due.is("3: what was GONE already does not count", plan.removeRoom(1), 2);
  }

  private static void setPeople() {
    ClerestoryPlan plan = new ClerestoryPlan();
    plan.addRoom(0, 0, 0, 5, 5, 0);
    Due.is("4: 0 at first", plan.setPeople(0, 200), 0);
    Due.is("4: before", plan.setPeople(0, 3), 200);
    Due.is("4: left", plan.left(0), 3);
    Due.badArgument("4: -1", plan, () -> plan.setPeople(0, -1));
    Due.badArgument("4: 201", plan, () -> plan.setPeople(0, 201));
    Due.noSuch("4: no room", plan, () -> plan.setPeople(1, 5));
    Due.noSuch("4: no room -1", plan, () -> plan.setPeople(-1, 5));
    Due.noSuch("4: no room ahead of wrong people", plan, () -> plan.setPeople(20, 201));
    Due.is("4: unchanged by all these", plan.setPeople(0, 0), 3);
    plan.removeRoom(0);
    Due.noSuch("4: GONE", plan, () -> plan.setPeople(0, 5));
  }

  private static void roomAt() {
    ClerestoryPlan plan = new ClerestoryPlan();
    plan.addRoom(0, 2, 3, 4, 5, 0);
    plan.addRoom(2, 2, 3, 4, 5, 0);
    plan.addRoom(0, 6, 3, 1, 1, 0);
    Due.is("14: the first unit", plan.roomAt(0, 2, 3), 0);
    Due.is("14: the last unit", plan.roomAt(0, 5, 7), 0);
    Due.is("14: left of it", plan.roomAt(0, 1, 3), -1);
    Due.is("14: below it", plan.roomAt(0, 2, 2), -1);
    Due.is("14: right of it, in the next one", plan.roomAt(0, 6, 3), 2);
    Due.is("14: right of it, in none", plan.roomAt(0, 6, 4), -1);
    Due.is("14: above it", plan.roomAt(0, 5, 8), -1);
    Due.is("14: another floor", plan.roomAt(1, 2, 3), -1);
    Due.is("14: the floor 2", plan.roomAt(2, 2, 3), 1);
    Due.is("14: far away", plan.roomAt(0, Integer.MIN_VALUE, Integer.MAX_VALUE), -1);
    Due.badArgument("14: floor -1", plan, () -> plan.roomAt(-1, 2, 3));
    Due.badArgument("14: floor 3", plan, () -> plan.roomAt(3, 2, 3));
    plan.removeRoom(0);
    Due.is("14: GONE", plan.roomAt(0, 2, 3), -1);
  }
}
