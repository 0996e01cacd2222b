/** Promises 27 to 32: faults, the mean way. Their bounds, and promise 10, are in BoundsRulesTest. */
public final class FaultsTest {
  public static void main(String[] args) {
    lostRule();
    farRule();
    crowdedRule();
    tightRule();
    darkRule();
    spanRule();
    oneWayRule();
    deepRule();
    steepRule();
    wetRule();
    order();
    manyFaults();
    meanWay();
    Due.end();
  }

  private static void lostRule() {
    ClerestoryPlan plan = Plans.pair();
    plan.shut(0, true);
    Due.faults("nobody is lost", plan, 0);
    plan.setPeople(0, 1);
    plan.setPeople(1, 3);
    plan.setPeople(2, 5);
    Due.faults("lost, not those of room 1", plan, 0, 0, 1, 2, 5);
    plan.setLimit(0, 1);
    Due.faults("one is allowed", plan, 0, 2, 4);
    plan.setLimit(0, 5);
    Due.faults("five are allowed", plan, 0);
    ClerestoryPlan ring = Plans.ring();
    ring.setPeople(3, 2);
    Due.faults("in a trap", ring, 0, 3, 2);
  }

  private static void farRule() {
    ClerestoryPlan plan = Plans.pair();
    Due.faults("far ways of 51, 31, 83", plan, 1);
    plan.setLimit(1, 83);
    Due.faults("just allowed", plan, 1);
    plan.setLimit(1, 82);
    Due.faults("one more", plan, 1, 2, 1);
    plan.setLimit(1, 40);
    Due.faults("two of them", plan, 1, 0, 11, 2, 43);
    plan.setLimit(1, 0);
    plan.shut(0, true);
    Due.faults("lost rooms have no far way", plan, 1, 1, 31);
    ClerestoryPlan ring = Plans.ring();
    ring.setLimit(1, 28);
    Due.faults("traps have one", ring, 1, 0, 1, 1, 1, 2, 1, 3, 1);
  }

  private static void crowdedRule() {
    ClerestoryPlan plan = Plans.pair();
    plan.setPeople(0, 16);
    Due.faults("16 by a door 2 wide, and by one 1 wide", plan, 2, 1, 8);
    plan.setPeople(0, 17);
    Due.faults("17", plan, 2, 0, 1, 1, 9);
    plan.setLimit(2, 17);
    Due.faults("17 for each unit", plan, 2);
    plan.setLimit(2, 0);
    Due.faults("none at all", plan, 2, 0, 17, 1, 17);
    plan.shut(0, true);
    Due.faults("SHUT, there is no load", plan, 2);
  }

  private static void tightRule() {
    ClerestoryPlan plan = Plans.pair();
    plan.setPeople(0, 25);
    plan.setPeople(1, 26);
    Due.faults("25 and 26 on 100 units", plan, 3, 1, 4);
    plan.setLimit(3, 999);
    Due.faults("room 2 has nobody", plan, 3, 0, 24875, 1, 25874);
    plan.setLimit(3, 0);
    Due.faults("nothing is wanted", plan, 3);
  }

  private static void darkRule() {
    ClerestoryPlan plan = new ClerestoryPlan();
    plan.addRoom(0, 0, 0, 7, 5, 0);
    plan.addRoom(0, 10, 0, 7, 5, 1);
    plan.addRoom(0, 20, 0, 7, 5, 2);
    plan.addRoom(0, 30, 0, 7, 5, 3);
    plan.addRoom(0, 40, 0, 3, 3, 0);
    Due.faults("3.5 are cut, 0.9 as well; only dwellings", plan, 4, 0, 3);
    plan.addWindow(0, 0, 0, false, 1);
    Due.faults("one", plan, 4, 0, 2);
    plan.addWindow(0, 2, 0, false, 2);
    Due.faults("together", plan, 4);
    plan.setLimit(4, 12);
    Due.faults("4.2 and 1.08", plan, 4, 0, 1, 4, 1);
    plan.setLimit(4, 0);
    Due.faults("nothing is wanted", plan, 4);
    plan.setLimit(4, 999);
    Due.faults("the most", plan, 4, 0, 346, 4, 89);
  }

  private static void spanRule() {
    ClerestoryPlan plan = new ClerestoryPlan();
    plan.addRoom(0, 0, 0, 30, 12, 2);
    plan.addRoom(0, 30, 0, 12, 30, 2);
    plan.addRoom(0, 42, 0, 13, 14, 2);
    plan.addRoom(0, 60, 0, 16, 15, 2);
    Due.faults("the smaller one", plan, 5, 2, 1, 3, 3);
    plan.setLimit(5, 15);
    Due.faults("15 are allowed", plan, 5);
  }

  private static void oneWayRule() {
    ClerestoryPlan plan = Plans.pair();
    for (int room = 0; room < 3; room++) {
      plan.setPeople(room, 51);
    }
    Due.faults("one of a door and stairs, of two doors, of stairs alone", plan, 6, 2, 1);
    plan.shut(0, true);
    Due.faults("SHUT ones do not count", plan, 6, 0, 1, 1, 1, 2, 1);
    plan.setPeople(0, 50);
    plan.setPeople(1, 49);
    Due.faults("50 are allowed", plan, 6, 2, 1);
    plan.removeRoom(0);
    Due.faults("without any", plan, 6, 2, 1);
    plan.setLimit(6, 0);
    Due.faults("nobody is allowed", plan, 6, 1, 49, 2, 51);
  }

  private static void deepRule() {
    ClerestoryPlan plan = new ClerestoryPlan();
    for (int i = 0; i < 5; i++) {
      plan.addRoom(0, 3 * i, 0, 3, 3, 1);
      plan.addDoor(i, i - 1, 3 * i, 1, true, 1);
    }
    Due.faults("4 and 5", plan, 7, 3, 1, 4, 2);
    plan.setLimit(7, 0);
    Due.faults("all of them", plan, 7, 0, 1, 1, 2, 2, 3, 3, 4, 4, 5);
    plan.shut(2, true);
    Due.faults("lost ones are not deep", plan, 7, 0, 1, 1, 2);
    ClerestoryPlan ring = Plans.ring();
    ring.setLimit(7, 0);
    Due.faults("nor are traps", ring, 7);
  }

  private static void steepRule() {
    ClerestoryPlan plan = Plans.pair();
    plan.setPeople(2, 60);
    Due.faults("60", plan, 8);
    plan.setPeople(2, 61);
    Due.faults("61", plan, 8, 0, 1);
    plan.setLimit(8, 0);
    Due.faults("nobody is allowed", plan, 8, 0, 61);
    plan.addStairs(0, 2, 6, 5);
    Due.faults("on the nearer ones", plan, 8, 1, 61);
    Due.is("23: the nearer ones", plan.stairsLoad(1), 61);
  }

  private static void wetRule() {
    ClerestoryPlan plan = new ClerestoryPlan();
    plan.addRoom(0, 0, 0, 4, 4, 0);
    plan.addRoom(0, 4, 0, 4, 4, 0);
    plan.addRoom(0, 0, 4, 4, 4, 1);
    plan.addRoom(0, 30, 0, 4, 4, 3);
    plan.addRoom(1, 1, 2, 4, 4, 3);
    plan.addRoom(2, 0, 0, 9, 9, 3);
    plan.addRoom(1, 8, 0, 4, 4, 3);
    Due.faults("3 by 2 of one dwelling, 1 by 2 of another; one beside; one two floors above", plan, 9, 4, 8);
    plan.addRoom(0, 40, 2, 4, 4, 0);
    plan.addRoom(0, 1, 40, 4, 4, 0);
    Due.faults("dwellings that are far to the right, and far above", plan, 9, 4, 8);
    plan.addRoom(1, 0, 0, 2, 2, 0);
    Due.faults("a dwelling on the floor 1", plan, 9, 4, 8, 5, 4);
    plan.setLimit(9, 4);
    Due.faults("four are allowed", plan, 9, 4, 4);
    plan.removeRoom(0);
    Due.faults("one is GONE", plan, 9);
    plan.setLimit(9, 1);
    Due.faults("one is allowed", plan, 9, 4, 1, 5, 3);
  }

  private static void order() {
    ClerestoryPlan plan = Plans.pair();
    Due.is("27: none", plan.faults(), 0);
    plan.setPeople(0, 30);
    plan.setPeople(1, 30);
    plan.setPeople(2, 70);
    plan.setLimit(5, 9);
    int[][] want = {
      {2, 0, 84}, {2, 1, 122}, {3, 0, 20}, {3, 1, 20}, {3, 2, 180}, {5, 0, 1}, {5, 1, 1}, {5, 2, 1},
      {6, 2, 20}, {8, 0, 10}
    };
    Due.is("27: faults", plan.faults(), want.length);
    for (int i = 0; i < want.length; i++) {
      Due.is("28: fault " + i, plan.ruleOf(i), want[i][0]);
      Due.is("29: fault " + i, plan.whereOf(i), want[i][1]);
      Due.is("30: fault " + i, plan.howMuch(i), want[i][2]);
    }
    int[] broken = {0, 0, 2, 3, 0, 3, 1, 0, 1, 0};
    for (int rule = 0; rule < 10; rule++) {
      Due.is("31: rule " + rule, plan.broken(rule), broken[rule]);
    }
    Due.noSuch("28: behind the last", plan, () -> plan.ruleOf(want.length));
    plan.removeRoom(0);
    Due.is("27: without room 0", plan.faults(), 7);
    Due.is("28: the first is now", plan.ruleOf(0), 0);
    Due.is("29: the first is now in", plan.whereOf(0), 2);
  }

  /** Twenty dwellings in a row, each by the next one, in which all is wrong that can be. */
  private static void manyFaults() {
    ClerestoryPlan plan = new ClerestoryPlan();
    for (int i = 0; i < 20; i++) {
      plan.addRoom(0, 3 * i, 0, 3, 3, 0);
      plan.addDoor(i, i - 1, 3 * i, 0, true, 1);
      plan.addDoor(i, i - 1, 3 * i, 1, true, 1);
      plan.setPeople(i, 200);
    }
    for (int rule : new int[] {1, 2, 5, 6, 7}) {
      plan.setLimit(rule, 0);
    }
    plan.setLimit(4, 999);
    Due.faults("the doors by which nobody goes are not crowded", plan, 2, crowd());
    Due.is("31: one way", plan.broken(6), 0);
    for (int i = 0; i < 20; i++) {
      plan.removeDoor(2 * i);
    }
    Due.faults("one way for the last", plan, 6, 19, 200);
    Due.is("27: six rules, and the last one way", plan.faults(), 6 * 20 + 1);
    Due.is("29: the last", plan.whereOf(120), 19);
    Due.is("30: the last is 20 deep", plan.howMuch(120), 20);
    plan.shut(1, true);
    Due.is("27: lost, tight, dark, span; one way the first and the last", plan.faults(), 4 * 20 + 2);
  }

  /** The doors with odd numbers, at the middle of the sides: all rooms from theirs on go through them. */
  private static int[] crowd() {
    int[] want = new int[40];
    for (int i = 0; i < 20; i++) {
      want[2 * i] = 2 * i + 1;
      want[2 * i + 1] = 200 * (20 - i);
    }
    return want;
  }

  private static void meanWay() {
    ClerestoryPlan plan = Plans.pair();
    Due.is("32: without any people", plan.meanWay(), 0.0);
    plan.setPeople(0, 5);
    Due.is("32: of one room", plan.meanWay(), 31.0);
    plan.setPeople(1, 7);
    plan.setPeople(2, 11);
    Due.is("32: not cut", plan.meanWay(), 925.0 / 23.0);
    plan.shut(0, true);
    Due.is("32: without the lost ones", plan.meanWay(), 11.0);
    plan.shut(1, true);
    Due.is("32: all are lost", plan.meanWay(), 0.0);
    ClerestoryPlan ring = Plans.ring();
    ring.setPeople(0, 3);
    Due.is("32: traps are not lost", ring.meanWay(), 7.0);
  }
}
