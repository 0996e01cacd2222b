/** Every promise for a plan in which there is nothing, and for one in which all is that ever can be put in. */
public final class EmptyAndFullTest {
  public static void main(String[] args) {
    emptyOfAll();
    emptyOfRooms(new ClerestoryPlan(), "a new plan");
    emptyOfDoorsAndStairs(new ClerestoryPlan(), "a new plan");
    allGone();
    fullNumbers();
    fullTakesNoMore();
    fullWays();
    fullLoadsAndTime();
    fullFaults();
    fullWouldBe();
    fullTakenAway();
    Due.end();
  }

  private static void emptyOfAll() {
    ClerestoryPlan plan = new ClerestoryPlan();
    Due.is("11: no rooms", plan.rooms(), 0);
    Due.is("12: no doors", plan.doors(), 0);
    Due.is("13: no stairs", plan.stairs(), 0);
    for (int floor = 0; floor <= 2; floor++) {
      Due.is("14: no room there", plan.roomAt(floor, 0, 0), -1);
    }
    Due.is("24: nobody needs any time", plan.timeOut(), 0);
    Due.is("25: nobody is left at tick 0", plan.left(0), 0);
    Due.is("25: nobody is left at tick 999", plan.left(999), 0);
    Due.is("27: no faults", plan.faults(), 0);
    for (int rule = 0; rule < 10; rule++) {
      Due.is("31: rule " + rule, plan.broken(rule), 0);
    }
    Due.is("32: the mean of none", plan.meanWay(), 0.0);
    for (int fault = -1; fault <= 1; fault++) {
      int wrong = fault;
      Due.noSuch("28: fault " + fault, plan, () -> plan.ruleOf(wrong));
      Due.noSuch("29: fault " + fault, plan, () -> plan.whereOf(wrong));
      Due.noSuch("30: fault " + fault, plan, () -> plan.howMuch(wrong));
    }
  }

  private static void emptyOfRooms(ClerestoryPlan plan, String what) {
    for (int wrong : new int[] {-1, 0, 19, 20}) {
      String room = " of " + what + ", room " + wrong;
      Due.noSuch("3" + room, plan, () -> plan.removeRoom(wrong));
      Due.noSuch("4" + room, plan, () -> plan.setPeople(wrong, 0));
      Due.noSuch("5" + room, plan, () -> plan.addDoor(wrong, -1, 0, 0, true, 1));
      Due.noSuch("6" + room, plan, () -> plan.addWindow(wrong, 0, 0, true, 1));
      Due.noSuch("7" + room, plan, () -> plan.addStairs(wrong, wrong, 0, 0));
      Due.noSuch("15" + room, plan, () -> plan.areJoined(wrong, wrong));
      Due.noSuch("16" + room, plan, () -> plan.isLost(wrong));
      Due.noSuch("17" + room, plan, () -> plan.farWay(wrong));
      Due.noSuch("18" + room, plan, () -> plan.leaving(wrong));
      Due.noSuch("19" + room, plan, () -> plan.middleWay(wrong));
      Due.noSuch("20" + room, plan, () -> plan.depth(wrong));
      Due.noSuch("26" + room, plan, () -> plan.inRoom(wrong, 0));
      Due.noSuch("36" + room, plan, () -> plan.mostPeople(wrong));
    }
  }

  private static void emptyOfDoorsAndStairs(ClerestoryPlan plan, String what) {
    for (int wrong : new int[] {-1, 0, 39, 40}) {
      String door = " of " + what + ", door " + wrong;
      Due.noSuch("8" + door, plan, () -> plan.shut(wrong, true));
      Due.noSuch("9" + door, plan, () -> plan.removeDoor(wrong));
      Due.noSuch("21" + door, plan, () -> plan.way(wrong, false));
      Due.noSuch("22" + door, plan, () -> plan.load(wrong));
      Due.noSuch("33" + door, plan, () -> plan.faultsWith(wrong));
      Due.noSuch("34" + door, plan, () -> plan.lostWithout(wrong));
      Due.noSuch("35" + door, plan, () -> plan.timeWith(wrong, 1));
    }
    for (int wrong : new int[] {-1, 0, 9, 10}) {
      Due.noSuch("23 of " + what + ", stairs " + wrong, plan, () -> plan.stairsLoad(wrong));
    }
  }

  /** All that was in it is GONE: it is empty, but no room can be laid any more. */
  private static void allGone() {
    ClerestoryPlan plan = Plans.full();
    for (int room = 0; room < 20; room++) {
      plan.removeRoom(room);
    }
    Due.is("37: as a new plan", plan.digest(), new ClerestoryPlan().digest());
    Due.badState("2: there were 20", plan, () -> plan.addRoom(0, 0, 0, 1, 1, 0));
    emptyOfRooms(plan, "a plan of which all is GONE");
    ClerestoryPlan other = Plans.full();
    for (int room = 19; room >= 0; room--) {
      other.removeRoom(room);
    }
    emptyOfDoorsAndStairs(other, "a plan of which all is GONE");
  }

  private static void fullNumbers() {
    ClerestoryPlan plan = Plans.full();
    Due.is("11: all rooms", plan.rooms(), 20);
    Due.is("12: all doors", plan.doors(), 40);
    Due.is("13: all stairs", plan.stairs(), 10);
    for (int room = 0; room < 20; room++) {
      int x = 6 * (room % 10);
      Due.is("14: its first unit", plan.roomAt(room / 10, x, 0), room);
      Due.is("14: its last unit", plan.roomAt(room / 10, x + 5, 5), room);
      Due.is("4: its PEOPLE", plan.setPeople(room, 200), 200);
    }
    for (int room = 0; room < 19; room++) {
      Due.is("15: " + room + " and the next one", plan.areJoined(room, room + 1), room < 9 || room == 10);
    }
    for (int door = 0; door < 40; door++) {
      Due.is("8: none is SHUT", plan.shut(door, false), false);
    }
  }

  private static void fullTakesNoMore() {
    ClerestoryPlan plan = Plans.full();
    Due.badState("2: there were 20", plan, () -> plan.addRoom(2, 0, 0, 6, 6, 1));
    Due.badState("5: there were 40", plan, () -> plan.addDoor(0, -1, 4, 0, false, 1));
    Due.badState("5: there were 40, between", plan, () -> plan.addDoor(0, 1, 6, 3, true, 1));
    Due.badState("6: there were 40", plan, () -> plan.addWindow(0, 4, 6, false, 1));
    Due.badState("7: there were 10", plan, () -> plan.addStairs(0, 10, 3, 3));
  }

  private static void fullWays() {
    ClerestoryPlan plan = Plans.full();
    for (int i = 0; i < 10; i++) {
      Due.is("18: by the nearer door", plan.leaving(i), 2 * i + 1);
      Due.is("19: 3 and 6", plan.middleWay(i), 9);
      Due.is("20: OUT", plan.depth(i), 1);
      Due.is("18: down", plan.leaving(10 + i), 100 + i);
      Due.is("19: down, 3 and 6", plan.middleWay(10 + i), 29);
      Due.is("17: 12 to the middle", plan.farWay(10 + i), 12 + 20 + 9);
      Due.is("20: down and OUT", plan.depth(10 + i), 2);
      Due.is("16: none is LOST", plan.isLost(i) || plan.isLost(10 + i), false);
    }
    for (int door = 0; door < 20; door++) {
      Due.is("21: OUT by " + door, plan.way(door, false), 0);
      Due.is("21: back by " + door, plan.way(door, true), -1);
    }
    for (int i = 0; i < 9; i++) {
      Due.is("21: into the next one, and 1 and 1 to its door", plan.way(20 + 2 * i, false), 2);
      Due.is("21: back, into the next one again by the second door, 2 to it and 4", plan.way(20 + 2 * i, true), 6);
    }
    Due.is("21: above, from (12, 1) to (18, 6), and down", plan.way(38, false), 6 + 5 + 20 + 9);
    Due.is("21: above, the last one, led back", plan.way(39, true), 6 + 3 + 20 + 9);
  }

  private static void fullLoadsAndTime() {
    ClerestoryPlan plan = Plans.full();
    for (int door = 0; door < 40; door++) {
      Due.is("22: door " + door, plan.load(door), door < 20 && door % 2 == 1 ? 400 : 0);
    }
    for (int stairs = 0; stairs < 10; stairs++) {
      Due.is("23: stairs " + stairs, plan.stairsLoad(stairs), 200);
    }
    Due.is("24: 400 by each door", plan.timeOut(), 200);
    Due.is("25: all", plan.left(0), 4000);
    Due.is("25: two of each", plan.left(1), 3980);
    Due.is("25: the last ones", plan.left(199), 20);
    Due.is("25: then", plan.left(200), 0);
    Due.is("26: three come, two go", plan.inRoom(0, 10), 210);
    Due.is("26: three go", plan.inRoom(19, 10), 170);
    Due.is("32: 9 and 29", plan.meanWay(), 19.0);
  }

  private static void fullFaults() {
    ClerestoryPlan plan = Plans.full();
    int[] broken = {0, 0, 10, 20, 0, 0, 8, 0, 10, 0};
    for (int rule = 0; rule < 10; rule++) {
      Due.is("31: rule " + rule, plan.broken(rule), broken[rule]);
    }
    Due.is("27: all", plan.faults(), 48);
    Due.is("28: the last", plan.ruleOf(47), 8);
    Due.is("29: the last", plan.whereOf(47), 9);
    Due.is("30: the last", plan.howMuch(47), 140);
    for (int rule = 1; rule <= 8; rule++) {
      plan.setLimit(rule, rule == 4 || rule == 3 ? 999 : 0);
    }
    Due.is("27: FAR, CROWDED, TIGHT, SPAN, ONE WAY, DEEP, STEEP", plan.faults(), 20 + 10 + 20 + 20 + 8 + 20 + 10);
  }

  private static void fullWouldBe() {
    ClerestoryPlan plan = Plans.full();
    Due.is("33: the other door is as near for all", plan.faultsWith(1), 48);
    Due.is("33: nobody goes there", plan.faultsWith(39), 48);
    Due.is("34: there are others", plan.lostWithout(1), 0);
    Due.is("35: wider", plan.timeWith(19, 6), 200);
    for (int room = 0; room < 20; room++) {
      Due.is("36: 36 / 4", plan.mostPeople(room), 9);
    }
    Due.is("24: nothing is changed", plan.timeOut(), 200);
  }

  /** Promise 3; all 90 DOORS, WINDOWS and STAIRS are GONE with their ROOMS. */
  private static void fullTakenAway() {
    ClerestoryPlan plan = Plans.full();
    int[] gone = {7, 7, 7, 7, 7, 7, 7, 7, 7, 5, 4, 2, 2, 2, 2, 2, 2, 2, 2, 2};
    for (int room = 0; room < 20; room++) {
      Due.is("3: room " + room, plan.removeRoom(room), gone[room]);
      Due.is("11: are left", plan.rooms(), 19 - room);
    }
    Due.is("12: none is left", plan.doors(), 0);
    Due.is("13: none is left", plan.stairs(), 0);
  }
}
