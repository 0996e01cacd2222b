import java.util.function.Consumer;
import java.util.function.Supplier;

/**
 * Each exception of each promise, and which comes first where several are due ("If several exceptions apply,
 * the one that is named first is thrown"). "A method that throws an exception changes nothing": behind it the
 * plan is asked all that can be asked, and answers like one of which the call was never asked.
 */
public final class RefusedTest {
  private static final String NO_SUCH = "IndexOutOfBoundsException";
  private static final String BAD_ARGUMENT = "IllegalArgumentException";
  private static final String BAD_STATE = "IllegalStateException";

  public static void main(String[] args) {
    addRoom();
    addRoomOfTwenty();
    removeRoom();
    setPeople();
    addDoor();
    addDoorOfForty();
    addWindow();
    addWindowOfForty();
    addStairs();
    addStairsOfTen();
    shutAndRemoveDoor();
    setLimit();
    roomAtAndAreJoined();
    waysOfRooms();
    waysOfDoorsAndStairs();
    time();
    faults();
    wouldBe();
    Due.end();
  }

  /**
   * Rooms 0 and 1 side by side, 2 above 0; room 3 and door 2 are GONE; door 0 between, door 1 OUT and SHUT,
   * door 3 OUT of room 0, stairs 0, a window of room 0, people everywhere, a limit of its own.
   */
  private static ClerestoryPlan ordinary() {
    ClerestoryPlan plan = new ClerestoryPlan();
    plan.addRoom(0, 0, 0, 10, 10, 0);
    plan.addRoom(0, 10, 0, 10, 10, 1);
    plan.addRoom(1, 0, 0, 10, 10, 3);
    plan.addRoom(0, 40, 40, 5, 5, 1);
    plan.removeRoom(3);
    plan.addDoor(0, 1, 10, 4, true, 2);
    plan.addDoor(1, -1, 20, 4, true, 1);
    plan.addDoor(0, -1, 0, 0, true, 1);
    plan.removeDoor(2);
    plan.addDoor(0, -1, 3, 0, false, 2);
    plan.addStairs(0, 2, 2, 5);
    plan.addWindow(0, 0, 5, true, 2);
    plan.shut(1, true);
    plan.setPeople(0, 31);
    plan.setPeople(1, 7);
    plan.setPeople(2, 70);
    plan.setLimit(3, 5);
    return plan;
  }

  private static ClerestoryPlan twentyRooms() {
    ClerestoryPlan plan = ordinary();
    for (int i = 4; i < 20; i++) {
      plan.addRoom(2, 4 * (i - 4), 0, 4, 4, 0);
    }
    return plan;
  }

  private static ClerestoryPlan fortyDoors() {
    ClerestoryPlan plan = ordinary();
    for (int i = 4; i < 40; i++) {
      plan.addDoor(0, -1, 9, 0, false, 1);
      plan.removeDoor(i);
    }
    return plan;
  }

  private static ClerestoryPlan fortyWindows() {
    ClerestoryPlan plan = ordinary();
    for (int i = 0; i < 39; i++) {
      boolean isUp = i % 2 == 1;
      int line = i % 4 < 2 ? 0 : 10;
      plan.addWindow(2, isUp ? line : i / 4, isUp ? i / 4 : line, isUp, 1);
    }
    return plan;
  }

  private static ClerestoryPlan tenStairs() {
    ClerestoryPlan plan = ordinary();
    for (int i = 1; i < 10; i++) {
      plan.addStairs(0, 2, i, 10);
    }
    return plan;
  }

  private static void refused(String what, String want, Supplier<ClerestoryPlan> maker,
      Consumer<ClerestoryPlan> call) {
    ClerestoryPlan asked = maker.get();
    Due.is(what, Due.thrownBy(() -> call.accept(asked)), want);
    Due.is(what + ": asked again", Due.thrownBy(() -> call.accept(asked)), want);
    Due.is(what + ": nothing is changed", Answers.of(asked), Answers.of(maker.get()));
  }

  private static void noSuch(String what, Consumer<ClerestoryPlan> call) {
    refused(what, NO_SUCH, RefusedTest::ordinary, call);
  }

  private static void badArgument(String what, Consumer<ClerestoryPlan> call) {
    refused(what, BAD_ARGUMENT, RefusedTest::ordinary, call);
  }

  private static void badState(String what, Consumer<ClerestoryPlan> call) {
    refused(what, BAD_STATE, RefusedTest::ordinary, call);
  }

  private static void addRoom() {
    badArgument("2: floor", plan -> plan.addRoom(3, 30, 30, 5, 5, 0));
    badArgument("2: x", plan -> plan.addRoom(0, 61, 30, 5, 5, 0));
    badArgument("2: y", plan -> plan.addRoom(0, 30, -1, 5, 5, 0));
    badArgument("2: w", plan -> plan.addRoom(0, 30, 30, 0, 5, 0));
    badArgument("2: h", plan -> plan.addRoom(0, 30, 30, 5, 31, 0));
    badArgument("2: use", plan -> plan.addRoom(0, 30, 30, 5, 5, 4));
    badState("2: an inside in common", plan -> plan.addRoom(0, 19, 9, 5, 5, 0));
    badArgument("2: a wrong use ahead of an inside in common", plan -> plan.addRoom(0, 5, 5, 5, 5, 4));
    badArgument("2: a wrong w ahead of an inside in common", plan -> plan.addRoom(0, 5, 5, 31, 5, 0));
    badArgument("2: a wrong x ahead of an inside in common", plan -> plan.addRoom(0, -1, 5, 5, 5, 0));
  }

  private static void addRoomOfTwenty() {
    refused("2: there were 20", BAD_STATE, RefusedTest::twentyRooms, plan -> plan.addRoom(0, 30, 30, 5, 5, 0));
    refused("2: there were 20, in common", BAD_STATE, RefusedTest::twentyRooms,
        plan -> plan.addRoom(0, 5, 5, 5, 5, 0));
    refused("2: a wrong floor ahead of 20", BAD_ARGUMENT, RefusedTest::twentyRooms,
        plan -> plan.addRoom(-1, 30, 30, 5, 5, 0));
    refused("2: a wrong h ahead of 20, in common", BAD_ARGUMENT, RefusedTest::twentyRooms,
        plan -> plan.addRoom(0, 5, 5, 5, 0, 0));
  }

  private static void removeRoom() {
    noSuch("3: GONE", plan -> plan.removeRoom(3));
    noSuch("3: never laid", plan -> plan.removeRoom(4));
    noSuch("3: -1", plan -> plan.removeRoom(-1));
  }

  private static void setPeople() {
    noSuch("4: GONE", plan -> plan.setPeople(3, 5));
    noSuch("4: never laid", plan -> plan.setPeople(4, 5));
    badArgument("4: -1", plan -> plan.setPeople(0, -1));
    badArgument("4: 201", plan -> plan.setPeople(0, 201));
    noSuch("4: no room ahead of 201", plan -> plan.setPeople(4, 201));
    noSuch("4: GONE ahead of -1", plan -> plan.setPeople(3, -1));
  }

  /** At (6, 0), lying, room 0 has a free place for a door OUT; at (10, 7), upwards, both for one between. */
  private static void addDoor() {
    noSuch("5: room GONE", plan -> plan.addDoor(3, -1, 40, 40, true, 1));
    noSuch("5: to GONE", plan -> plan.addDoor(0, 3, 6, 0, false, 1));
    noSuch("5: to -2", plan -> plan.addDoor(0, -2, 6, 0, false, 1));
    badArgument("5: wide 0", plan -> plan.addDoor(0, -1, 6, 0, false, 0));
    badArgument("5: wide 7", plan -> plan.addDoor(0, 1, 10, 3, true, 7));
    badArgument("5: the same", plan -> plan.addDoor(0, 0, 6, 0, false, 1));
    badArgument("5: different floors", plan -> plan.addDoor(0, 2, 6, 0, false, 1));
    badArgument("5: OUT from the floor 1", plan -> plan.addDoor(2, -1, 6, 0, false, 1));
    badState("5: not on the side", plan -> plan.addDoor(0, -1, 6, 1, false, 1));
    badState("5: not on the other's side", plan -> plan.addDoor(0, 1, 6, 0, false, 1));
    badState("5: OUT along another room", plan -> plan.addDoor(0, -1, 10, 7, true, 1));
    badState("5: in common with a door", plan -> plan.addDoor(0, -1, 2, 0, false, 2));
    badState("5: in common with a window", plan -> plan.addDoor(0, -1, 0, 6, true, 2));
    noSuch("5: no room ahead of wide 0", plan -> plan.addDoor(9, -1, 6, 0, false, 0));
    noSuch("5: to GONE ahead of wide 7", plan -> plan.addDoor(0, 3, 6, 0, false, 7));
    noSuch("5: GONE ahead of the same", plan -> plan.addDoor(3, 3, 40, 40, true, 1));
    noSuch("5: to -2 ahead of the floor", plan -> plan.addDoor(2, -2, 6, 0, false, 1));
    noSuch("5: no room ahead of the place", plan -> plan.addDoor(9, -1, 77, 77, false, 1));
    noSuch("5: to none ahead of the place", plan -> plan.addDoor(0, 9, 77, 77, false, 1));
    badArgument("5: wide 0 ahead of the place", plan -> plan.addDoor(0, -1, 77, 77, false, 0));
    badArgument("5: wide 7 ahead of a door there", plan -> plan.addDoor(0, -1, 3, 0, false, 7));
    badArgument("5: the same ahead of the place", plan -> plan.addDoor(1, 1, 77, 77, false, 1));
    badArgument("5: floors ahead of the place", plan -> plan.addDoor(2, 1, 77, 77, false, 1));
    badArgument("5: OUT from 1 ahead of the place", plan -> plan.addDoor(2, -1, 77, 77, false, 1));
  }

  private static void addDoorOfForty() {
    Supplier<ClerestoryPlan> forty = RefusedTest::fortyDoors;
    refused("5: there were 40", BAD_STATE, forty, plan -> plan.addDoor(0, -1, 6, 0, false, 1));
    refused("5: 40, at no place", BAD_STATE, forty, plan -> plan.addDoor(0, -1, 77, 77, false, 1));
    refused("5: no room ahead of 40", NO_SUCH, forty, plan -> plan.addDoor(9, -1, 6, 0, false, 1));
    refused("5: to none ahead of 40", NO_SUCH, forty, plan -> plan.addDoor(0, 20, 6, 0, false, 1));
    refused("5: wide 0 ahead of 40", BAD_ARGUMENT, forty, plan -> plan.addDoor(0, -1, 6, 0, false, 0));
    refused("5: the same ahead of 40", BAD_ARGUMENT, forty, plan -> plan.addDoor(0, 0, 6, 0, false, 1));
    refused("5: floors ahead of 40", BAD_ARGUMENT, forty, plan -> plan.addDoor(0, 2, 6, 0, false, 1));
    refused("5: OUT from 1 ahead of 40", BAD_ARGUMENT, forty, plan -> plan.addDoor(2, -1, 6, 0, false, 1));
  }

  private static void addWindow() {
    noSuch("6: GONE", plan -> plan.addWindow(3, 40, 40, true, 1));
    noSuch("6: -1", plan -> plan.addWindow(-1, 6, 0, false, 1));
    badArgument("6: wide 0", plan -> plan.addWindow(0, 6, 0, false, 0));
    badArgument("6: wide 7", plan -> plan.addWindow(0, 6, 0, false, 7));
    badState("6: not on the side", plan -> plan.addWindow(0, 6, 1, false, 1));
    badState("6: along another room", plan -> plan.addWindow(0, 10, 7, true, 1));
    badState("6: in common with a door", plan -> plan.addWindow(0, 2, 0, false, 2));
    badState("6: in common with a SHUT door", plan -> plan.addWindow(1, 20, 4, true, 1));
    badState("6: in common with a window", plan -> plan.addWindow(0, 0, 6, true, 2));
    noSuch("6: GONE ahead of wide 0", plan -> plan.addWindow(3, 40, 40, true, 0));
    noSuch("6: no room ahead of the place", plan -> plan.addWindow(9, 77, 77, true, 1));
    badArgument("6: wide 7 ahead of the place", plan -> plan.addWindow(0, 77, 77, true, 7));
  }

  private static void addWindowOfForty() {
    Supplier<ClerestoryPlan> forty = RefusedTest::fortyWindows;
    refused("6: there were 40", BAD_STATE, forty, plan -> plan.addWindow(0, 6, 0, false, 1));
    refused("6: 40, at no place", BAD_STATE, forty, plan -> plan.addWindow(0, 77, 77, false, 1));
    refused("6: no room ahead of 40", NO_SUCH, forty, plan -> plan.addWindow(9, 6, 0, false, 1));
    refused("6: wide 7 ahead of 40", BAD_ARGUMENT, forty, plan -> plan.addWindow(0, 6, 0, false, 7));
  }

  private static void addStairs() {
    noSuch("7: lower GONE", plan -> plan.addStairs(3, 2, 5, 5));
    noSuch("7: upper GONE", plan -> plan.addStairs(0, 3, 5, 5));
    noSuch("7: upper -1", plan -> plan.addStairs(0, -1, 5, 5));
    badArgument("7: down", plan -> plan.addStairs(2, 0, 5, 5));
    badArgument("7: on one floor", plan -> plan.addStairs(0, 1, 10, 5));
    badArgument("7: not in the lower one", plan -> plan.addStairs(1, 2, 9, 5));
    badArgument("7: not in the upper one", plan -> plan.addStairs(1, 2, 11, 5));
    noSuch("7: lower GONE ahead of the point", plan -> plan.addStairs(3, 2, 77, 77));
    noSuch("7: upper none ahead of the point", plan -> plan.addStairs(0, 9, 77, 77));
    noSuch("7: upper none ahead of the floors", plan -> plan.addStairs(2, 9, 5, 5));
  }

  private static void addStairsOfTen() {
    Supplier<ClerestoryPlan> ten = RefusedTest::tenStairs;
    refused("7: there were 10", BAD_STATE, ten, plan -> plan.addStairs(0, 2, 5, 5));
    refused("7: lower none ahead of 10", NO_SUCH, ten, plan -> plan.addStairs(9, 2, 5, 5));
    refused("7: upper GONE ahead of 10", NO_SUCH, ten, plan -> plan.addStairs(0, 3, 5, 5));
    refused("7: the floors ahead of 10", BAD_ARGUMENT, ten, plan -> plan.addStairs(2, 0, 5, 5));
    refused("7: the point ahead of 10", BAD_ARGUMENT, ten, plan -> plan.addStairs(0, 2, 11, 5));
  }

  private static void shutAndRemoveDoor() {
    noSuch("8: GONE", plan -> plan.shut(2, true));
    noSuch("8: never put in", plan -> plan.shut(4, true));
    noSuch("8: -1", plan -> plan.shut(-1, false));
    noSuch("9: GONE", plan -> plan.removeDoor(2));
    noSuch("9: never put in", plan -> plan.removeDoor(4));
    noSuch("9: 40", plan -> plan.removeDoor(40));
  }

  private static void setLimit() {
    noSuch("10: -1", plan -> plan.setLimit(-1, 5));
    noSuch("10: 10", plan -> plan.setLimit(10, 5));
    badArgument("10: limit -1", plan -> plan.setLimit(3, -1));
    badArgument("10: limit 1000", plan -> plan.setLimit(3, 1000));
    noSuch("10: no rule ahead of limit 1000", plan -> plan.setLimit(10, 1000));
    noSuch("10: no rule ahead of limit -1", plan -> plan.setLimit(-1, -1));
  }

  private static void roomAtAndAreJoined() {
    badArgument("14: floor -1", plan -> plan.roomAt(-1, 5, 5));
    badArgument("14: floor 3", plan -> plan.roomAt(3, 5, 5));
    noSuch("15: one GONE", plan -> plan.areJoined(3, 0));
    noSuch("15: other GONE", plan -> plan.areJoined(0, 3));
    noSuch("15: both GONE", plan -> plan.areJoined(3, 3));
  }

  private static void waysOfRooms() {
    for (int wrong : new int[] {-1, 3, 4, 20}) {
      noSuch("16: " + wrong, plan -> plan.isLost(wrong));
      noSuch("17: " + wrong, plan -> plan.farWay(wrong));
      noSuch("18: " + wrong, plan -> plan.leaving(wrong));
      noSuch("19: " + wrong, plan -> plan.middleWay(wrong));
      noSuch("20: " + wrong, plan -> plan.depth(wrong));
      noSuch("36: " + wrong, plan -> plan.mostPeople(wrong));
    }
  }

  private static void waysOfDoorsAndStairs() {
    for (int wrong : new int[] {-1, 2, 4, 40}) {
      noSuch("21: " + wrong, plan -> plan.way(wrong, false));
      noSuch("21: back, " + wrong, plan -> plan.way(wrong, true));
      noSuch("22: " + wrong, plan -> plan.load(wrong));
    }
    for (int wrong : new int[] {-1, 1, 10, 100}) {
      noSuch("23: " + wrong, plan -> plan.stairsLoad(wrong));
    }
    refused("23: GONE", NO_SUCH, () -> {
      ClerestoryPlan plan = ordinary();
      plan.removeRoom(2);
      return plan;
    }, plan -> plan.stairsLoad(0));
  }

  private static void time() {
    for (int wrong : new int[] {-1, 1000}) {
      badArgument("25: tick " + wrong, plan -> plan.left(wrong));
      badArgument("26: tick " + wrong, plan -> plan.inRoom(0, wrong));
      noSuch("26: GONE ahead of tick " + wrong, plan -> plan.inRoom(3, wrong));
      noSuch("26: no room ahead of tick " + wrong, plan -> plan.inRoom(20, wrong));
    }
    noSuch("26: GONE", plan -> plan.inRoom(3, 0));
  }

  private static void faults() {
    int faults = ordinary().faults();
    Due.is("27: some", faults > 0, true);
    for (int wrong : new int[] {-1, faults, 1000}) {
      noSuch("28: " + wrong, plan -> plan.ruleOf(wrong));
      noSuch("29: " + wrong, plan -> plan.whereOf(wrong));
      noSuch("30: " + wrong, plan -> plan.howMuch(wrong));
    }
    noSuch("31: -1", plan -> plan.broken(-1));
    noSuch("31: 10", plan -> plan.broken(10));
  }

  private static void wouldBe() {
    for (int wrong : new int[] {-1, 2, 4, 40}) {
      noSuch("33: " + wrong, plan -> plan.faultsWith(wrong));
      noSuch("34: " + wrong, plan -> plan.lostWithout(wrong));
      noSuch("35: " + wrong, plan -> plan.timeWith(wrong, 1));
      noSuch("35: ahead of wide 0, " + wrong, plan -> plan.timeWith(wrong, 0));
      noSuch("35: ahead of wide 7, " + wrong, plan -> plan.timeWith(wrong, 7));
    }
    badArgument("35: wide 0", plan -> plan.timeWith(0, 0));
    badArgument("35: wide 7", plan -> plan.timeWith(1, 7));
  }
}
