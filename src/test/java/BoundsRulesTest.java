/** The bounds that section 4 names, rule by rule, with what promises 10 and 27 to 32 say of them. */
public final class BoundsRulesTest {
  private static final int[] FIRST = {0, 120, 8, 4, 10, 12, 50, 3, 60, 0};

  public static void main(String[] args) {
    limitsAtFirst();
    limitsAtTheirEnds();
    limitsBeyondTheirEnds();
    noSuchRule();
    limitsOfAnEmptyPlan();
    lostRule();
    lostRuleOfTraps();
    farRule();
    farRuleOfLostRoomsAndTraps();
    crowdedRule();
    crowdedRuleAtItsEnds();
    tightRule();
    tightRuleAtItsEnds();
    darkRule();
    darkRuleIsCut();
    darkRuleAtItsEnds();
    spanRule();
    oneWayRule();
    oneWayRuleCountsExits();
    deepRule();
    steepRule();
    steepRuleAtItsEnds();
    wetRule();
    wetRuleAboveWhat();
    orderOfTheFaults();
    noSuchFault();
    noFaultAtAll();
    brokenRules();
    meanOfNobody();
    meanIsNotCut();
    Due.end();
  }

  /** Promise 10; "Each RULE has a LIMIT (in brackets what it is at first)". */
  private static void limitsAtFirst() {
    ClerestoryPlan plan = new ClerestoryPlan();
    for (int rule = 0; rule < 10; rule++) {
      Due.is("10: rule " + rule + " at first", plan.setLimit(rule, 7), FIRST[rule]);
    }
    for (int rule = 0; rule < 10; rule++) {
      Due.is("10: rule " + rule + " then", plan.setLimit(rule, 7), 7);
    }
  }

  /** Promise 10; "0 to 999". */
  private static void limitsAtTheirEnds() {
    ClerestoryPlan plan = new ClerestoryPlan();
    for (int rule = 0; rule < 10; rule++) {
      Due.is("10: 0 for rule " + rule, plan.setLimit(rule, 0), FIRST[rule]);
      Due.is("10: 999 for rule " + rule, plan.setLimit(rule, 999), 0);
      Due.is("10: 1 for rule " + rule, plan.setLimit(rule, 1), 999);
    }
  }

  private static void limitsBeyondTheirEnds() {
    ClerestoryPlan plan = new ClerestoryPlan();
    for (int i = 0; i < 10; i++) {
      int rule = i;
      for (int wrong : new int[] {-1, 1000, Integer.MIN_VALUE, Integer.MAX_VALUE}) {
        Due.badArgument("10: " + wrong + " for rule " + rule, plan, () -> plan.setLimit(rule, wrong));
      }
      Due.is("10: as before, rule " + rule, plan.setLimit(rule, 5), FIRST[rule]);
    }
  }

  /** Promises 10 and 31; "if there is no such RULE", for 10 also ahead of a wrong limit. */
  private static void noSuchRule() {
    ClerestoryPlan plan = Plans.pair();
    for (int wrong : new int[] {-1, 10, 100, Integer.MIN_VALUE, Integer.MAX_VALUE}) {
      Due.noSuch("10: rule " + wrong, plan, () -> plan.setLimit(wrong, 0));
      Due.noSuch("10: rule " + wrong + ", limit -1", plan, () -> plan.setLimit(wrong, -1));
      Due.noSuch("10: rule " + wrong + ", limit 1000", plan, () -> plan.setLimit(wrong, 1000));
      Due.noSuch("31: rule " + wrong, plan, () -> plan.broken(wrong));
    }
  }

  private static void limitsOfAnEmptyPlan() {
    ClerestoryPlan plan = new ClerestoryPlan();
    for (int limit : new int[] {0, 999}) {
      for (int rule = 0; rule < 10; rule++) {
        plan.setLimit(rule, limit);
        Due.is("31: nothing breaks rule " + rule, plan.broken(rule), 0);
      }
      Due.is("27: no fault with all limits " + limit, plan.faults(), 0);
    }
  }

  /** Rule 0; "LOST (0): a ROOM that is LOST, or a TRAP, has more PEOPLE; by how many more". */
  private static void lostRule() {
    ClerestoryPlan plan = new ClerestoryPlan();
    plan.addRoom(0, 0, 0, 10, 10, 1);
    Due.faults("LOST, without people", plan, 0);
    plan.setPeople(0, 1);
    Due.faults("one", plan, 0, 0, 1);
    plan.setPeople(0, 200);
    Due.faults("200", plan, 0, 0, 200);
    plan.setLimit(0, 199);
    Due.faults("one more than 199", plan, 0, 0, 1);
    plan.setLimit(0, 200);
    Due.faults("as many as are allowed", plan, 0);
    plan.setLimit(0, 999);
    Due.faults("fewer than are allowed", plan, 0);
    plan.setLimit(0, 0);
    plan.addDoor(0, -1, 0, 0, true, 1);
    Due.faults("not LOST any more", plan, 0);
  }

  private static void lostRuleOfTraps() {
    ClerestoryPlan plan = Plans.trap();
    plan.setPeople(0, 3);
    plan.setPeople(1, 4);
    plan.setLimit(0, 3);
    Due.faults("as many as are allowed in a TRAP, and one more", plan, 0, 1, 1);
    plan.setLimit(0, 2);
    Due.faults("one and two more", plan, 0, 0, 1, 1, 2);
  }

  /** Rule 1; "FAR (120): the FAR WAY of a ROOM is more; by how much". */
  private static void farRule() {
    ClerestoryPlan plan = new ClerestoryPlan();
    plan.addRoom(0, 0, 0, 10, 10, 1);
    plan.addRoom(1, 0, 0, 30, 21, 1);
    plan.addStairs(0, 1, 1, 0);
    plan.addDoor(0, -1, 0, 0, false, 2);
    Due.is("17: from (60, 42) to (2, 0), and the stairs", plan.farWay(1), 120);
    Due.faults("120", plan, 1);
    plan.removeDoor(0);
    plan.addDoor(0, -1, 1, 0, false, 1);
    Due.is("17: one more", plan.farWay(1), 121);
    Due.faults("121", plan, 1, 1, 1);
    plan.setLimit(1, 121);
    Due.faults("121 are allowed", plan, 1);
    plan.setLimit(1, 0);
    Due.faults("nothing is allowed", plan, 1, 0, 37, 1, 121);
  }

  private static void farRuleOfLostRoomsAndTraps() {
    ClerestoryPlan plan = Plans.trap();
    plan.addRoom(0, 0, 20, 30, 30, 1);
    plan.setLimit(1, 28);
    Due.faults("TRAPS of 29; a LOST room has no FAR WAY", plan, 1, 0, 1, 1, 1);
    plan.setLimit(1, 0);
    Due.faults("nor more than 0", plan, 1, 0, 29, 1, 29);
  }

  /** Rule 2; "CROWDED (8): a DOOR has a LOAD of more than LIMIT times what it is WIDE; by how much". */
  private static void crowdedRule() {
    for (int wide = 1; wide <= 6; wide++) {
      ClerestoryPlan plan = Plans.hall(10, 10, wide);
      plan.setPeople(0, 8 * wide);
      Due.faults("8 for each unit of " + wide, plan, 2);
      plan.setPeople(0, 8 * wide + 1);
      Due.faults("one more than 8 for each unit of " + wide, plan, 2, 0, 1);
    }
  }

  private static void crowdedRuleAtItsEnds() {
    ClerestoryPlan plan = Plans.row(5);
    plan.setLimit(2, 0);
    Due.faults("nobody", plan, 2);
    plan.setPeople(4, 1);
    Due.faults("one is too many", plan, 2, 0, 1, 1, 1, 2, 1, 3, 1, 4, 1);
    plan.setLimit(2, 999);
    for (int room = 0; room < 5; room++) {
      plan.setPeople(room, 200);
    }
    Due.faults("one more than 999", plan, 2, 0, 1);
    plan.setPeople(4, 199);
    Due.faults("999", plan, 2);
    plan.setLimit(2, 998);
    plan.shut(0, true);
    Due.faults("a SHUT door has no LOAD", plan, 2);
  }

  /** Rule 3; "TIGHT (4): a ROOM with PEOPLE has less than LIMIT times its PEOPLE of w * h; by how much less". */
  private static void tightRule() {
    ClerestoryPlan plan = new ClerestoryPlan();
    plan.addRoom(0, 0, 0, 7, 8, 2);
    plan.setPeople(0, 14);
    Due.faults("14 on 56", plan, 3);
    plan.setPeople(0, 15);
    Due.faults("15 on 56", plan, 3, 0, 4);
    plan.addRoom(0, 20, 0, 3, 5, 2);
    plan.setPeople(1, 4);
    Due.faults("16 would be needed, not 15", plan, 3, 0, 4, 1, 1);
  }

  private static void tightRuleAtItsEnds() {
    ClerestoryPlan plan = new ClerestoryPlan();
    plan.addRoom(0, 0, 0, 30, 30, 2);
    plan.addRoom(0, 30, 0, 1, 1, 2);
    plan.setLimit(3, 999);
    Due.faults("without people", plan, 3);
    plan.setPeople(0, 1);
    plan.setPeople(1, 1);
    Due.faults("900 and 1 instead of 999", plan, 3, 0, 99, 1, 998);
    plan.setPeople(0, 200);
    plan.setPeople(1, 200);
    Due.faults("the most", plan, 3, 0, 199800 - 900, 1, 199800 - 1);
    plan.setLimit(3, 0);
    Due.faults("nothing is wanted", plan, 3);
  }

  /** Rule 4; "DARK (10): the WINDOWS of a DWELLING together are WIDE less than w * h * LIMIT / 100". */
  private static void darkRule() {
    ClerestoryPlan plan = new ClerestoryPlan();
    for (int use = 0; use <= 3; use++) {
      plan.addRoom(0, 15 * use, 0, 10, 10, use);
    }
    Due.faults("only the DWELLING", plan, 4, 0, 10);
    plan.addWindow(0, 0, 0, true, 6);
    plan.addWindow(0, 0, 0, false, 3);
    Due.faults("9 instead of 10", plan, 4, 0, 1);
    plan.addWindow(1, 15, 0, false, 6);
    Due.faults("those of another room do not count", plan, 4, 0, 1);
    plan.addDoor(0, -1, 10, 0, true, 6);
    Due.faults("nor do doors", plan, 4, 0, 1);
    plan.addWindow(0, 3, 0, false, 1);
    Due.faults("10", plan, 4);
    plan.addWindow(0, 4, 0, false, 1);
    Due.faults("11", plan, 4);
  }

  /** "/ is cut towards 0". */
  private static void darkRuleIsCut() {
    ClerestoryPlan plan = new ClerestoryPlan();
    plan.addRoom(0, 0, 0, 3, 3, 0);
    Due.faults("0.9 is 0", plan, 4);
    plan.setLimit(4, 11);
    Due.faults("0.99 is 0", plan, 4);
    plan.setLimit(4, 12);
    Due.faults("1.08 is 1", plan, 4, 0, 1);
    plan.setLimit(4, 22);
    Due.faults("1.98 is 1", plan, 4, 0, 1);
    plan.addWindow(0, 0, 0, true, 1);
    Due.faults("1 for 1.98", plan, 4);
    plan.setLimit(4, 23);
    Due.faults("1 for 2.07", plan, 4, 0, 1);
  }

  private static void darkRuleAtItsEnds() {
    ClerestoryPlan plan = new ClerestoryPlan();
    plan.addRoom(2, 0, 0, 30, 30, 0);
    plan.setLimit(4, 999);
    Due.faults("the most", plan, 4, 0, 8991);
    plan.setLimit(4, 0);
    Due.faults("nothing is wanted", plan, 4);
  }

  /** Rule 5; "SPAN (12): the smaller of w and h of a ROOM is more; by how much". */
  private static void spanRule() {
    ClerestoryPlan plan = new ClerestoryPlan();
    plan.addRoom(0, 0, 0, 12, 12, 0);
    plan.addRoom(1, 0, 0, 12, 13, 1);
    plan.addRoom(1, 20, 0, 13, 12, 2);
    Due.faults("12 are allowed", plan, 5);
    plan.addRoom(2, 0, 0, 13, 13, 3);
    Due.faults("13", plan, 5, 3, 1);
    plan.setLimit(5, 0);
    Due.faults("nothing is allowed", plan, 5, 0, 12, 1, 12, 2, 12, 3, 13);
    plan.addRoom(0, 60, 60, 30, 30, 0);
    plan.setLimit(5, 29);
    Due.faults("the greatest", plan, 5, 4, 1);
    plan.setLimit(5, 30);
    Due.faults("none is greater", plan, 5);
  }

  /** Rule 6; "ONE WAY (50): a ROOM with more PEOPLE has ... one together or none; by how many PEOPLE more". */
  private static void oneWayRule() {
    ClerestoryPlan plan = Plans.hall(10, 10, 6);
    plan.setPeople(0, 50);
    Due.faults("50 are allowed", plan, 6);
    plan.setPeople(0, 51);
    Due.faults("51", plan, 6, 0, 1);
    plan.setLimit(6, 51);
    Due.faults("51 are allowed", plan, 6);
    plan.setLimit(6, 0);
    plan.setPeople(0, 0);
    Due.faults("nobody", plan, 6);
    plan.setPeople(0, 1);
    Due.faults("one is too many", plan, 6, 0, 1);
    plan.setLimit(6, 999);
    plan.setPeople(0, 200);
    Due.faults("fewer than are allowed", plan, 6);
  }

  /** "of DOORS that are not SHUT and of STAIRS, one together or none". */
  private static void oneWayRuleCountsExits() {
    ClerestoryPlan plan = Plans.tower();
    plan.setPeople(1, 60);
    Due.faults("none", plan, 6, 1, 10);
    plan.addWindow(1, 0, 0, true, 6);
    Due.faults("a window is none", plan, 6, 1, 10);
    plan.addStairs(1, 2, 5, 5);
    Due.faults("stairs alone", plan, 6, 1, 10);
    plan.addDoor(0, 1, 10, 4, true, 1);
    Due.faults("stairs, and a door that leads to it", plan, 6);
    plan.shut(0, true);
    Due.faults("the door is SHUT", plan, 6, 1, 10);
    plan.addStairs(1, 2, 5, 5);
    Due.faults("two stairs", plan, 6);
    plan.removeRoom(2);
    Due.faults("both stairs are GONE", plan, 6, 1, 10);
    plan.shut(0, false);
    Due.faults("the door alone", plan, 6, 1, 10);
    plan.addDoor(1, -1, 0, 8, true, 1);
    Due.faults("two doors", plan, 6);
    plan.removeDoor(0);
    Due.faults("one is GONE", plan, 6, 1, 10);
  }

  /** Rule 7; "DEEP (3): ... one goes through more DOORS and STAIRS till one is OUT, by LEAVINGS; by how many". */
  private static void deepRule() {
    Due.faults("3", Plans.row(3), 7);
    Due.faults("4", Plans.row(4), 7, 3, 1);
    ClerestoryPlan row = Plans.row(20);
    row.setLimit(7, 19);
    Due.faults("20, and 19 are allowed", row, 7, 19, 1);
    row.setLimit(7, 20);
    Due.faults("20 are allowed", row, 7);
    row.setLimit(7, 18);
    row.shut(0, true);
    Due.faults("LOST rooms are not DEEP", row, 7);
    ClerestoryPlan tower = Plans.tower();
    tower.addStairs(1, 2, 0, 0);
    tower.addStairs(2, 3, 0, 0);
    tower.addDoor(1, -1, 0, 0, true, 1);
    tower.setLimit(7, 2);
    Due.faults("stairs count", tower, 7, 3, 1);
    ClerestoryPlan trap = Plans.trap();
    trap.setLimit(7, 0);
    Due.faults("TRAPS are not DEEP", trap, 7);
  }

  /** Rule 8; "STEEP (60): STAIRS have a LOAD of more; by how much". */
  private static void steepRule() {
    ClerestoryPlan plan = Plans.pair();
    plan.setPeople(2, 60);
    Due.faults("60", plan, 8);
    plan.setPeople(2, 61);
    Due.faults("61", plan, 8, 0, 1);
    plan.shut(1, true);
    Due.faults("those of LOST rooms are no LOAD", plan, 8);
  }

  private static void steepRuleAtItsEnds() {
    ClerestoryPlan plan = Plans.tower();
    plan.addDoor(1, -1, 0, 0, true, 1);
    for (int i = 0; i < 9; i++) {
      plan.addStairs(1, 2, 10, 10);
    }
    plan.addStairs(1, 2, 0, 0);
    plan.setLimit(8, 0);
    Due.faults("nobody", plan, 8);
    plan.setPeople(2, 1);
    Due.faults("one, on the last", plan, 8, 9, 1);
    plan.setPeople(2, 200);
    plan.setLimit(8, 199);
    Due.faults("200 instead of 199", plan, 8, 9, 1);
    plan.setLimit(8, 200);
    Due.faults("200 are allowed", plan, 8);
  }

  /** Rule 9; "WET (0): a WET ROOM has more units of its inside above DWELLINGS ...; by how many more". */
  private static void wetRule() {
    ClerestoryPlan plan = new ClerestoryPlan();
    plan.addRoom(0, 0, 0, 10, 10, 0);
    plan.addRoom(1, 10, 0, 10, 10, 3);
    plan.addRoom(1, 0, 10, 10, 10, 3);
    plan.addRoom(1, 10, 10, 10, 10, 3);
    Due.faults("only sides and a corner in common", plan, 9);
    plan.addRoom(1, 9, 9, 1, 1, 3);
    Due.faults("one unit", plan, 9, 4, 1);
    plan.setLimit(9, 1);
    Due.faults("one unit is allowed", plan, 9);
    plan.addRoom(2, 0, 0, 30, 30, 3);
    plan.addRoom(1, 0, 0, 4, 3, 0);
    plan.addRoom(1, 4, 0, 4, 2, 0);
    Due.faults("12 and 8 together", plan, 9, 5, 19);
    plan.setLimit(9, 20);
    Due.faults("20 are allowed", plan, 9);
    plan.setLimit(9, 19);
    Due.faults("one more than 19", plan, 9, 5, 1);
    plan.setLimit(9, 0);
    Due.faults("nothing is allowed", plan, 9, 4, 1, 5, 20);
  }

  private static void wetRuleAboveWhat() {
    for (int below = 0; below <= 3; below++) {
      for (int use = 0; use <= 3; use++) {
        ClerestoryPlan plan = new ClerestoryPlan();
        plan.addRoom(0, 0, 0, 30, 30, below);
        plan.addRoom(1, 0, 0, 30, 30, use);
        String what = use + " above " + below;
        if (use == 3 && below == 0) {
          Due.faults(what, plan, 9, 1, 900);
          plan.setLimit(9, 999);
          Due.faults("all are allowed", plan, 9);
        } else {
          Due.faults(what, plan, 9);
        }
      }
    }
    ClerestoryPlan plan = new ClerestoryPlan();
    plan.addRoom(0, 0, 0, 5, 5, 0);
    plan.addRoom(2, 0, 0, 5, 5, 3);
    plan.addRoom(1, 10, 10, 5, 5, 3);
    plan.addRoom(2, 10, 10, 5, 5, 0);
    plan.addRoom(0, 20, 20, 5, 5, 3);
    Due.faults("two floors below; the floor above; the lowest floor", plan, 9);
  }

  /** Promises 27 to 30; "By their numbers, and for each by the numbers of what breaks it". */
  private static void orderOfTheFaults() {
    ClerestoryPlan plan = Plans.row(2);
    plan.addRoom(1, 0, 0, 6, 3, 3);
    plan.addRoom(0, 0, 20, 3, 3, 0);
    plan.addStairs(1, 2, 4, 1);
    for (int room = 0; room < 4; room++) {
      plan.setPeople(room, 200);
    }
    for (int rule : new int[] {1, 5, 7}) {
      plan.setLimit(rule, 0);
    }
    plan.setLimit(4, 999);
    int[] rules = {0, 1, 1, 1, 2, 2, 3, 3, 3, 3, 4, 5, 5, 5, 5, 6, 6, 7, 7, 7, 8};
    int[] places = {3, 0, 1, 2, 0, 1, 0, 1, 2, 3, 3, 0, 1, 2, 3, 2, 3, 0, 1, 2, 0};
    Due.is("27: faults", plan.faults(), rules.length);
    for (int i = 0; i < rules.length && i < plan.faults(); i++) {
      Due.is("28: fault " + i, plan.ruleOf(i), rules[i]);
      Due.is("29: fault " + i, plan.whereOf(i), places[i]);
    }
    Due.is("30: the first", plan.howMuch(0), 200);
    Due.is("30: the last", plan.howMuch(rules.length - 1), 140);
  }

  /** Promises 28 to 30; "if there is no such fault". */
  private static void noSuchFault() {
    ClerestoryPlan plan = Plans.row(2);
    plan.setPeople(1, 11);
    Due.is("27: two doors CROWDED, one room TIGHT", plan.faults(), 3);
    Due.is("28: the last", plan.ruleOf(2), 3);
    Due.is("29: the last", plan.whereOf(2), 1);
    Due.is("30: the last", plan.howMuch(2), 35);
    for (int wrong : new int[] {-1, 3, 209, 210, Integer.MIN_VALUE, Integer.MAX_VALUE}) {
      Due.noSuch("28: fault " + wrong, plan, () -> plan.ruleOf(wrong));
      Due.noSuch("29: fault " + wrong, plan, () -> plan.whereOf(wrong));
      Due.noSuch("30: fault " + wrong, plan, () -> plan.howMuch(wrong));
    }
    plan.setPeople(1, 8);
    Due.is("27: only TIGHT", plan.faults(), 1);
    Due.noSuch("28: the last one is no more", plan, () -> plan.ruleOf(2));
    Due.noSuch("29: nor the second one", plan, () -> plan.whereOf(1));
    plan.setPeople(1, 2);
    Due.noSuch("28: all mended", plan, () -> plan.ruleOf(0));
  }

  private static void noFaultAtAll() {
    for (ClerestoryPlan plan : new ClerestoryPlan[] {new ClerestoryPlan(), Plans.pair()}) {
      Due.is("27: none", plan.faults(), 0);
      for (int wrong : new int[] {-1, 0, 1}) {
        Due.noSuch("28: fault " + wrong, plan, () -> plan.ruleOf(wrong));
        Due.noSuch("29: fault " + wrong, plan, () -> plan.whereOf(wrong));
        Due.noSuch("30: fault " + wrong, plan, () -> plan.howMuch(wrong));
      }
    }
  }

  /** Promise 31; the first and the last rule, too. */
  private static void brokenRules() {
    ClerestoryPlan plan = new ClerestoryPlan();
    plan.addRoom(0, 0, 0, 4, 4, 0);
    plan.addRoom(1, 0, 0, 2, 2, 3);
    plan.addRoom(1, 2, 2, 2, 2, 3);
    plan.setPeople(0, 1);
    int[] broken = {1, 0, 0, 0, 1, 0, 0, 0, 0, 2};
    for (int rule = 0; rule < 10; rule++) {
      Due.is("31: rule " + rule, plan.broken(rule), broken[rule]);
    }
    Due.is("27: all of them", plan.faults(), 4);
  }

  /** Promise 32; "0 without any". */
  private static void meanOfNobody() {
    Due.is("32: a new plan", new ClerestoryPlan().meanWay(), 0.0);
    ClerestoryPlan plan = Plans.pair();
    Due.is("32: nobody", plan.meanWay(), 0.0);
    ClerestoryPlan lost = Plans.tower();
    lost.setPeople(0, 200);
    Due.is("32: only in LOST rooms", lost.meanWay(), 0.0);
    ClerestoryPlan trap = Plans.trap();
    trap.setPeople(1, 1);
    Due.is("32: TRAPS are not LOST", trap.meanWay(), 7.0);
  }

  /** Promise 32; "in halves, not cut". */
  private static void meanIsNotCut() {
    ClerestoryPlan plan = Plans.pair();
    plan.setPeople(0, 1);
    Due.is("32: one", plan.meanWay(), 31.0);
    plan.setPeople(1, 2);
    Due.is("32: 31, 11, 11", plan.meanWay(), 53.0 / 3.0);
    plan.setPeople(1, 1);
    plan.setPeople(2, 1);
    Due.is("32: 31, 11, 63", plan.meanWay(), 35.0);
    plan.setPeople(0, 200);
    plan.setPeople(1, 200);
    plan.setPeople(2, 199);
    Due.is("32: of 599", plan.meanWay(), (200 * 31 + 200 * 11 + 199 * 63) / 599.0);
  }
}
