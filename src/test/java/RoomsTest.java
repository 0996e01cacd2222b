/** Promises 1 to 4, 11 and 14: a new plan, rooms, their people. Their bounds are in BoundsRoomsTest. */
public final class RoomsTest {
  public static void main(String[] args) {
    newPlan();
    addRoomTakes();
    removeRoom();
    setPeople();
    roomAt();
    Due.end();
  }

  private static void newPlan() {
    ClerestoryPlan plan = new ClerestoryPlan();
    Due.is("1: rooms", plan.rooms(), 0);
    Due.is("1: doors", plan.doors(), 0);
    Due.is("1: stairs", plan.stairs(), 0);
    Due.is("1: faults", plan.faults(), 0);
    Due.is("1: timeOut", plan.timeOut(), 0);
    Due.is("1: meanWay", plan.meanWay(), 0.0);
    Due.noSuch("1: there is no room 0", plan, () -> plan.removeRoom(0));
    ClerestoryPlan other = new ClerestoryPlan();
    other.addRoom(0, 0, 0, 1, 1, 0);
    other.setLimit(3, 7);
    Due.is("1: another plan's room", plan.rooms(), 0);
    Due.is("1: another plan's limit", plan.setLimit(3, 4), 4);
  }

  private static void addRoomTakes() {
    ClerestoryPlan plan = new ClerestoryPlan();
    Due.is("2: the least of all", plan.addRoom(0, 0, 0, 1, 1, 0), 0);
    Due.is("2: the greatest of all", plan.addRoom(2, 60, 60, 30, 30, 3), 1);
    Due.is("2: another floor", plan.addRoom(1, 60, 60, 30, 30, 2), 2);
    Due.is("2: beside", plan.addRoom(2, 30, 60, 30, 30, 1), 3);
    Due.is("2: only a corner in common", plan.addRoom(2, 30, 30, 30, 30, 1), 4);
    Due.is("11: rooms", plan.rooms(), 5);
  }

  private static void removeRoom() {
    ClerestoryPlan plan = Plans.pair();
    plan.addWindow(0, 0, 2, true, 1);
    plan.addWindow(0, 0, 3, true, 1);
    plan.addWindow(1, 12, 0, false, 1);
    for (int wrong : new int[] {-1, 3, 20, Integer.MIN_VALUE, Integer.MAX_VALUE}) {
      Due.noSuch("3: removeRoom " + wrong, plan, () -> plan.removeRoom(wrong));
    }
    Due.is("3: a door, two windows, stairs", plan.removeRoom(0), 4);
    Due.is("3: rooms", plan.rooms(), 2);
    Due.is("3: doors", plan.doors(), 1);
    Due.is("3: stairs", plan.stairs(), 0);
    Due.noSuch("3: GONE", plan, () -> plan.removeRoom(0));
    Due.noSuch("3: its door is GONE", plan, () -> plan.load(0));
    Due.noSuch("3: its stairs are GONE", plan, () -> plan.stairsLoad(0));
    Due.is("3: its windows are GONE, the other one is not", plan.addWindow(1, 14, 0, false, 1), 2);
    Due.is("3: what leads to it is GONE, too", Plans.pair().removeRoom(1), 2);
    Due.is("3: from above", Plans.pair().removeRoom(2), 1);
    Due.is("3: its number is not given again", plan.addRoom(0, 0, 0, 1, 1, 0), 3);
    Due.is("3: nothing of its own", plan.removeRoom(3), 0);
    plan.removeDoor(1);
    Due.is("3: what was GONE already does not count", plan.removeRoom(1), 2);
  }

  private static void setPeople() {
    ClerestoryPlan plan = new ClerestoryPlan();
    plan.addRoom(0, 0, 0, 5, 5, 0);
    Due.is("4: 0 at first", plan.setPeople(0, 200), 0);
    Due.is("4: before", plan.setPeople(0, 3), 200);
    Due.is("4: left", plan.left(0), 3);
    Due.badArgument("4: -1", plan, () -> plan.setPeople(0, -1));
    Due.badArgument("4: 201", plan, () -> plan.setPeople(0, 201));
    Due.noSuch("4: no room", plan, () -> plan.setPeople(1, 5));
    Due.noSuch("4: no room -1", plan, () -> plan.setPeople(-1, 5));
    Due.noSuch("4: no room ahead of wrong people", plan, () -> plan.setPeople(20, 201));
    Due.is("4: unchanged by all these", plan.setPeople(0, 0), 3);
    plan.removeRoom(0);
    Due.noSuch("4: GONE", plan, () -> plan.setPeople(0, 5));
  }

  private static void roomAt() {
    ClerestoryPlan plan = new ClerestoryPlan();
    plan.addRoom(0, 2, 3, 4, 5, 0);
    plan.addRoom(2, 2, 3, 4, 5, 0);
    plan.addRoom(0, 6, 3, 1, 1, 0);
    Due.is("14: the first unit", plan.roomAt(0, 2, 3), 0);
    Due.is("14: the last unit", plan.roomAt(0, 5, 7), 0);
    Due.is("14: left of it", plan.roomAt(0, 1, 3), -1);
    Due.is("14: below it", plan.roomAt(0, 2, 2), -1);
    Due.is("14: right of it, in the next one", plan.roomAt(0, 6, 3), 2);
    Due.is("14: right of it, in none", plan.roomAt(0, 6, 4), -1);
    Due.is("14: above it", plan.roomAt(0, 5, 8), -1);
    Due.is("14: another floor", plan.roomAt(1, 2, 3), -1);
    Due.is("14: the floor 2", plan.roomAt(2, 2, 3), 1);
    Due.is("14: far away", plan.roomAt(0, Integer.MIN_VALUE, Integer.MAX_VALUE), -1);
    Due.badArgument("14: floor -1", plan, () -> plan.roomAt(-1, 2, 3));
    Due.badArgument("14: floor 3", plan, () -> plan.roomAt(3, 2, 3));
    plan.removeRoom(0);
    Due.is("14: GONE", plan.roomAt(0, 2, 3), -1);
  }
}
