import java.util.Arrays;

/** Promises 10 and 27 to 32: limits, faults, the mean way. */
public final class FaultsTest {
  public static void main(String[] args) {
    limits();
    lostRule();
    farRule();
    crowdedRule();
    tightRule();
    darkRule();
    spanRule();
    oneWayRule();
    deepRule();
    steepRule();
    wetRule();
    order();
    manyFaults();
    wrongInputs();
    meanWay();
    Due.end();
  }

  /** The plan's faults by this rule are these: where and how much, one after the other. */
  private static void due(String what, ClerestoryPlan plan, int rule, int... want) {
    int[] got = new int[2 * plan.broken(rule)];
    int at = 0;
    for (int i = 0; i < plan.faults(); i++) {
      if (plan.ruleOf(i) == rule && at + 1 < got.length) {
        got[at] = plan.whereOf(i);
        got[at + 1] = plan.howMuch(i);
        at += 2;
      }
    }
    Due.is(rule + ": " + what, Arrays.toString(got), Arrays.toString(want));
  }

  private static void limits() {
    ClerestoryPlan plan = Plans.pair();
    int[] first = {0, 120, 8, 4, 10, 12, 50, 3, 60, 0};
    for (int i = 0; i < 10; i++) {
      int rule = i;
      Due.is("10: at first", plan.setLimit(rule, 999), first[rule]);
      Due.is("10: before", plan.setLimit(rule, 0), 999);
      Due.badArgument("10: -1", plan, () -> plan.setLimit(rule, -1));
      Due.badArgument("10: 1000", plan, () -> plan.setLimit(rule, 1000));
      Due.is("10: unchanged", plan.setLimit(rule, first[rule]), 0);
    }
    for (int wrong : new int[] {-1, 10, Integer.MIN_VALUE, Integer.MAX_VALUE}) {
      Due.noSuch("10: rule " + wrong, plan, () -> plan.setLimit(wrong, 5));
      Due.noSuch("10: rule " + wrong + " ahead of the limit", plan, () -> plan.setLimit(wrong, 1000));
    }
  }

  private static void lostRule() {
    ClerestoryPlan plan = Plans.pair();
    plan.shut(0, true);
    due("nobody is lost", plan, 0);
    plan.setPeople(0, 1);
    plan.setPeople(1, 3);
    plan.setPeople(2, 5);
    due("lost, not those of room 1", plan, 0, 0, 1, 2, 5);
    plan.setLimit(0, 1);
    due("one is allowed", plan, 0, 2, 4);
    plan.setLimit(0, 5);
    due("five are allowed", plan, 0);
    ClerestoryPlan ring = Plans.ring();
    ring.setPeople(3, 2);
    due("in a trap", ring, 0, 3, 2);
  }

  private static void farRule() {
    ClerestoryPlan plan = Plans.pair();
    due("far ways of 51, 31, 83", plan, 1);
    plan.setLimit(1, 83);
    due("just allowed", plan, 1);
    plan.setLimit(1, 82);
    due("one more", plan, 1, 2, 1);
    plan.setLimit(1, 40);
    due("two of them", plan, 1, 0, 11, 2, 43);
    plan.setLimit(1, 0);
    plan.shut(0, true);
    due("lost rooms have no far way", plan, 1, 1, 31);
    ClerestoryPlan ring = Plans.ring();
    ring.setLimit(1, 28);
    due("traps have one", ring, 1, 0, 1, 1, 1, 2, 1, 3, 1);
  }

  private static void crowdedRule() {
    ClerestoryPlan plan = Plans.pair();
    plan.setPeople(0, 16);
    due("16 by a door 2 wide, and by one 1 wide", plan, 2, 1, 8);
    plan.setPeople(0, 17);
    due("17", plan, 2, 0, 1, 1, 9);
    plan.setLimit(2, 17);
    due("17 for each unit", plan, 2);
    plan.setLimit(2, 0);
    due("none at all", plan, 2, 0, 17, 1, 17);
    plan.shut(0, true);
    due("SHUT, there is no load", plan, 2);
  }

  private static void tightRule() {
    ClerestoryPlan plan = Plans.pair();
    plan.setPeople(0, 25);
    plan.setPeople(1, 26);
    due("25 and 26 on 100 units", plan, 3, 1, 4);
    plan.setLimit(3, 999);
    due("room 2 has nobody", plan, 3, 0, 24875, 1, 25874);
    plan.setLimit(3, 0);
    due("nothing is wanted", plan, 3);
  }

  private static void darkRule() {
    ClerestoryPlan plan = new ClerestoryPlan();
    plan.addRoom(0, 0, 0, 7, 5, 0);
    plan.addRoom(0, 10, 0, 7, 5, 1);
    plan.addRoom(0, 20, 0, 7, 5, 2);
    plan.addRoom(0, 30, 0, 7, 5, 3);
    plan.addRoom(0, 40, 0, 3, 3, 0);
    due("3.5 are cut, 0.9 as well; only dwellings", plan, 4, 0, 3);
    plan.addWindow(0, 0, 0, false, 1);
    due("one", plan, 4, 0, 2);
    plan.addWindow(0, 2, 0, false, 2);
    due("together", plan, 4);
    plan.setLimit(4, 12);
    due("4.2 and 1.08", plan, 4, 0, 1, 4, 1);
    plan.setLimit(4, 0);
    due("nothing is wanted", plan, 4);
    plan.setLimit(4, 999);
    due("the most", plan, 4, 0, 346, 4, 89);
  }

  private static void spanRule() {
    ClerestoryPlan plan = new ClerestoryPlan();
    plan.addRoom(0, 0, 0, 30, 12, 2);
    plan.addRoom(0, 30, 0, 12, 30, 2);
    plan.addRoom(0, 42, 0, 13, 14, 2);
    plan.addRoom(0, 60, 0, 16, 15, 2);
    due("the smaller one", plan, 5, 2, 1, 3, 3);
    plan.setLimit(5, 15);
    due("15 are allowed", plan, 5);
  }

  private static void oneWayRule() {
    ClerestoryPlan plan = Plans.pair();
    for (int room = 0; room < 3; room++) {
      plan.setPeople(room, 51);
    }
    due("one of a door and stairs, of two doors, of stairs alone", plan, 6, 2, 1);
    plan.shut(0, true);
    due("SHUT ones do not count", plan, 6, 0, 1, 1, 1, 2, 1);
    plan.setPeople(0, 50);
    plan.setPeople(1, 49);
    due("50 are allowed", plan, 6, 2, 1);
    plan.removeRoom(0);
    due("without any", plan, 6, 2, 1);
    plan.setLimit(6, 0);
    due("nobody is allowed", plan, 6, 1, 49, 2, 51);
  }

  private static void deepRule() {
    ClerestoryPlan plan = new ClerestoryPlan();
    for (int i = 0; i < 5; i++) {
      plan.addRoom(0, 3 * i, 0, 3, 3, 1);
      plan.addDoor(i, i - 1, 3 * i, 1, true, 1);
    }
    due("4 and 5", plan, 7, 3, 1, 4, 2);
    plan.setLimit(7, 0);
    due("all of them", plan, 7, 0, 1, 1, 2, 2, 3, 3, 4, 4, 5);
    plan.shut(2, true);
    due("lost ones are not deep", plan, 7, 0, 1, 1, 2);
    ClerestoryPlan ring = Plans.ring();
    ring.setLimit(7, 0);
    due("nor are traps", ring, 7);
  }

  private static void steepRule() {
    ClerestoryPlan plan = Plans.pair();
    plan.setPeople(2, 60);
    due("60", plan, 8);
    plan.setPeople(2, 61);
    due("61", plan, 8, 0, 1);
    plan.setLimit(8, 0);
    due("nobody is allowed", plan, 8, 0, 61);
    plan.addStairs(0, 2, 6, 5);
    due("on the nearer ones", plan, 8, 1, 61);
    Due.is("23: the nearer ones", plan.stairsLoad(1), 61);
  }

  private static void wetRule() {
    ClerestoryPlan plan = new ClerestoryPlan();
    plan.addRoom(0, 0, 0, 4, 4, 0);
    plan.addRoom(0, 4, 0, 4, 4, 0);
    plan.addRoom(0, 0, 4, 4, 4, 1);
    plan.addRoom(0, 30, 0, 4, 4, 3);
    plan.addRoom(1, 1, 2, 4, 4, 3);
    plan.addRoom(2, 0, 0, 9, 9, 3);
    plan.addRoom(1, 8, 0, 4, 4, 3);
    due("3 by 2 of one dwelling, 1 by 2 of another; one beside; one two floors above", plan, 9, 4, 8);
    plan.addRoom(0, 40, 2, 4, 4, 0);
    plan.addRoom(0, 1, 40, 4, 4, 0);
    due("dwellings that are far to the right, and far above", plan, 9, 4, 8);
    plan.addRoom(1, 0, 0, 2, 2, 0);
    due("a dwelling on the floor 1", plan, 9, 4, 8, 5, 4);
    plan.setLimit(9, 4);
    due("four are allowed", plan, 9, 4, 4);
    plan.removeRoom(0);
    due("one is GONE", plan, 9);
    plan.setLimit(9, 1);
    due("one is allowed", plan, 9, 4, 1, 5, 3);
  }

  private static void order() {
    ClerestoryPlan plan = Plans.pair();
    Due.is("27: none", plan.faults(), 0);
    plan.setPeople(0, 30);
    plan.setPeople(1, 30);
    plan.setPeople(2, 70);
    plan.setLimit(5, 9);
    int[][] want = {
      {2, 0, 84}, {2, 1, 122}, {3, 0, 20}, {3, 1, 20}, {3, 2, 180}, {5, 0, 1}, {5, 1, 1}, {5, 2, 1},
      {6, 2, 20}, {8, 0, 10}
    };
    Due.is("27: faults", plan.faults(), want.length);
    for (int i = 0; i < want.length; i++) {
      Due.is("28: fault " + i, plan.ruleOf(i), want[i][0]);
      Due.is("29: fault " + i, plan.whereOf(i), want[i][1]);
      Due.is("30: fault " + i, plan.howMuch(i), want[i][2]);
    }
    int[] broken = {0, 0, 2, 3, 0, 3, 1, 0, 1, 0};
    for (int rule = 0; rule < 10; rule++) {
      Due.is("31: rule " + rule, plan.broken(rule), broken[rule]);
    }
    Due.noSuch("28: behind the last", plan, () -> plan.ruleOf(want.length));
    plan.removeRoom(0);
    Due.is("27: without room 0", plan.faults(), 7);
    Due.is("28: the first is now", plan.ruleOf(0), 0);
    Due.is("29: the first is now in", plan.whereOf(0), 2);
  }

  /** Twenty dwellings in a row, each by the next one, in which all is wrong that can be. */
  private static void manyFaults() {
    ClerestoryPlan plan = new ClerestoryPlan();
    for (int i = 0; i < 20; i++) {
      plan.addRoom(0, 3 * i, 0, 3, 3, 0);
      plan.addDoor(i, i - 1, 3 * i, 0, true, 1);
      plan.addDoor(i, i - 1, 3 * i, 1, true, 1);
      plan.setPeople(i, 200);
    }
    for (int rule : new int[] {1, 2, 5, 6, 7}) {
      plan.setLimit(rule, 0);
    }
    plan.setLimit(4, 999);
    due("the doors by which nobody goes are not crowded", plan, 2, crowd());
    Due.is("31: one way", plan.broken(6), 0);
    for (int i = 0; i < 20; i++) {
      plan.removeDoor(2 * i);
    }
    due("one way for the last", plan, 6, 19, 200);
    Due.is("27: six rules, and the last one way", plan.faults(), 6 * 20 + 1);
    Due.is("29: the last", plan.whereOf(120), 19);
    Due.is("30: the last is 20 deep", plan.howMuch(120), 20);
    plan.shut(1, true);
    Due.is("27: lost, tight, dark, span; one way the first and the last", plan.faults(), 4 * 20 + 2);
  }

  /** The doors with odd numbers, at the middle of the sides: all rooms from theirs on go through them. */
  private static int[] crowd() {
    int[] want = new int[40];
    for (int i = 0; i < 20; i++) {
      want[2 * i] = 2 * i + 1;
      want[2 * i + 1] = 200 * (20 - i);
    }
    return want;
  }

  private static void wrongInputs() {
    ClerestoryPlan plan = Plans.pair();
    plan.setPeople(1, 26);
    Due.is("27: crowded and tight", plan.faults(), 2);
    for (int wrong : new int[] {-1, 2, 1000, Integer.MIN_VALUE, Integer.MAX_VALUE}) {
      Due.noSuch("28: fault " + wrong, plan, () -> plan.ruleOf(wrong));
      Due.noSuch("29: fault " + wrong, plan, () -> plan.whereOf(wrong));
      Due.noSuch("30: fault " + wrong, plan, () -> plan.howMuch(wrong));
    }
    for (int wrong : new int[] {-1, 10, Integer.MIN_VALUE, Integer.MAX_VALUE}) {
      Due.noSuch("31: rule " + wrong, plan, () -> plan.broken(wrong));
    }
  }

  private static void meanWay() {
    ClerestoryPlan plan = Plans.pair();
    Due.is("32: without any people", plan.meanWay(), 0.0);
    plan.setPeople(0, 5);
    Due.is("32: of one room", plan.meanWay(), 31.0);
    plan.setPeople(1, 7);
    plan.setPeople(2, 11);
    Due.is("32: not cut", plan.meanWay(), 925.0 / 23.0);
    plan.shut(0, true);
    Due.is("32: without the lost ones", plan.meanWay(), 11.0);
    plan.shut(1, true);
    Due.is("32: all are lost", plan.meanWay(), 0.0);
    ClerestoryPlan ring = Plans.ring();
    ring.setPeople(0, 3);
    Due.is("32: traps are not lost", ring.meanWay(), 7.0);
  }
}
