/** The bounds that section 2 names, with what promises 16 to 23 say of them. Lengths are in halves. */
public final class BoundsWaysTest {
  public static void main(String[] args) {
    lostWithoutAny();
    lostBehindAShutDoor();
    lostBehindAWindow();
    lostBesideADeadEnd();
    lostInARing();
    lostAbove();
    notLostByADoorThatLeadsToIt();
    leastRoom();
    greatestRoom();
    wayOfADoorOut();
    wayOfAShutDoor();
    wayThroughAnotherOne();
    wayOfStairs();
    tieOfDoors();
    tieOfStairs();
    tieOfTheLastDoorAndTheFirstStairs();
    lastStairs();
    trapOfTwo();
    intoATrap();
    twentyDeep();
    loadOfNobody();
    noSuchRoom();
    noSuchDoor();
    noSuchStairs();
    Due.end();
  }

  private static void lost(String what, ClerestoryPlan plan, int room) {
    Due.is("16: " + what, plan.isLost(room), true);
    Due.is("17: " + what, plan.farWay(room), -1);
    Due.is("18: " + what, plan.leaving(room), -1);
    Due.is("19: " + what, plan.middleWay(room), -1);
    Due.is("20: " + what, plan.depth(room), -1);
  }

  private static ClerestoryPlan hall(int floor) {
    ClerestoryPlan plan = new ClerestoryPlan();
    plan.addRoom(floor, 0, 0, 10, 10, 1);
    return plan;
  }

  /** Promises 16 to 20; "A ROOM is LOST, if none of its DOORS and STAIRS has a WAY from it". */
  private static void lostWithoutAny() {
    for (int floor = 0; floor <= 2; floor++) {
      lost("without doors and stairs, floor " + floor, hall(floor), 0);
    }
    ClerestoryPlan plan = Plans.hall(10, 10, 2);
    Due.is("16: by its door it is not", plan.isLost(0), false);
    plan.removeDoor(0);
    lost("its door is GONE", plan, 0);
  }

  private static void lostBehindAShutDoor() {
    ClerestoryPlan plan = Plans.hall(10, 10, 2);
    plan.shut(0, true);
    lost("its door is SHUT", plan, 0);
    plan.shut(0, false);
    Due.is("16: opened", plan.isLost(0), false);
  }

  private static void lostBehindAWindow() {
    ClerestoryPlan plan = hall(0);
    plan.addWindow(0, 0, 0, true, 6);
    lost("with a window", plan, 0);
  }

  private static void lostBesideADeadEnd() {
    ClerestoryPlan plan = Plans.tower();
    plan.addDoor(0, 1, 10, 4, true, 2);
    lost("its door leads to a room without another one", plan, 0);
    lost("its only door leads back from that", plan, 1);
    Due.is("21: there", plan.way(0, false), -1);
    Due.is("21: back", plan.way(0, true), -1);
  }

  /** One can go round for ever, but never comes OUT. */
  private static void lostInARing() {
    ClerestoryPlan plan = Plans.tower();
    plan.addDoor(0, 1, 10, 2, true, 2);
    plan.addDoor(0, 1, 10, 6, true, 2);
    for (int room = 0; room <= 1; room++) {
      lost("two doors to each other", plan, room);
    }
    for (int door = 0; door <= 1; door++) {
      Due.is("21: round, there", plan.way(door, false), -1);
      Due.is("21: round, back", plan.way(door, true), -1);
    }
  }

  private static void lostAbove() {
    ClerestoryPlan plan = Plans.tower();
    plan.addStairs(1, 2, 0, 0);
    plan.addStairs(2, 3, 0, 0);
    for (int room = 1; room <= 3; room++) {
      lost("stairs alone", plan, room);
    }
    plan.addDoor(1, -1, 0, 0, false, 2);
    for (int room = 1; room <= 3; room++) {
      Due.is("16: a door OUT below", plan.isLost(room), false);
      Due.is("20: floors above", plan.depth(room), room);
    }
  }

  /** "The DOORS and STAIRS of a ROOM are those that lead from it or to it". */
  private static void notLostByADoorThatLeadsToIt() {
    ClerestoryPlan plan = Plans.tower();
    plan.addDoor(0, 1, 10, 4, true, 2);
    plan.addDoor(0, -1, 20, 4, true, 2);
    Due.is("16: by a door that leads to it", plan.isLost(1), false);
    Due.is("18: by a door that leads to it", plan.leaving(1), 0);
    Due.is("19: from (10, 10) by (20, 10) to (40, 10)", plan.middleWay(1), 30);
    plan.addStairs(1, 2, 5, 5);
    Due.is("18: by stairs that lead to it", plan.leaving(2), 100);
  }

  /** Promises 17 and 19; "halves kept", at the least and at the greatest size. */
  private static void leastRoom() {
    ClerestoryPlan plan = Plans.hall(1, 1, 1);
    Due.is("19: from (1, 1) to (1, 0)", plan.middleWay(0), 1);
    Due.is("17: from (0, 2) to (1, 0)", plan.farWay(0), 3);
  }

  private static void greatestRoom() {
    ClerestoryPlan plan = new ClerestoryPlan();
    plan.addRoom(0, 60, 60, 30, 30, 1);
    plan.addDoor(0, -1, 60, 60, false, 1);
    Due.is("19: from (150, 150) to (121, 120)", plan.middleWay(0), 59);
    Due.is("17: from (180, 180) to (121, 120)", plan.farWay(0), 119);
  }

  /** Promise 21; "or OUT: then it is 0"; "-1 ... if it leads OUT and isBack is asked". */
  private static void wayOfADoorOut() {
    ClerestoryPlan plan = Plans.hall(30, 30, 1);
    Due.is("21: OUT", plan.way(0, false), 0);
    Due.is("21: OUT, back", plan.way(0, true), -1);
  }

  private static void wayOfAShutDoor() {
    ClerestoryPlan plan = Plans.pair();
    plan.addDoor(0, -1, 0, 4, true, 2);
    Due.is("21: open, there", plan.way(0, false), 21);
    Due.is("21: open, back", plan.way(0, true), 20);
    plan.shut(0, true);
    plan.shut(1, true);
    for (int door = 0; door <= 1; door++) {
      Due.is("21: SHUT, there", plan.way(door, false), -1);
      Due.is("21: SHUT, back", plan.way(door, true), -1);
    }
  }

  /** Promise 21; "and on from there through another one (one never turns round at once ...); maybe there is none". */
  private static void wayThroughAnotherOne() {
    ClerestoryPlan plan = Plans.tower();
    plan.addDoor(0, 1, 10, 4, true, 2);
    plan.addDoor(0, -1, 20, 4, true, 2);
    Due.is("21: there is none", plan.way(0, false), -1);
    Due.is("21: back to (40, 10)", plan.way(0, true), 20);
    plan.addDoor(0, 1, 10, 0, true, 2);
    Due.is("21: through the second one, (20, 2), and OUT", plan.way(0, false), 8 + 28);
    Due.is("21: through the first one, (20, 10), and OUT", plan.way(2, false), 8 + 20);
    plan.shut(2, true);
    Due.is("21: the second one is SHUT", plan.way(0, false), -1);
  }

  /** "STAIRS are 20 long (in halves) beside that". */
  private static void wayOfStairs() {
    ClerestoryPlan plan = Plans.tower();
    plan.addDoor(1, -1, 0, 0, false, 2);
    plan.addStairs(1, 2, 1, 0);
    Due.is("19: from (10, 10) to (2, 0), the stairs, the door is there", plan.middleWay(2), 18 + 20);
    Due.is("17: from (20, 20)", plan.farWay(2), 38 + 20);
    plan.addStairs(2, 3, 1, 0);
    Due.is("19: two stairs", plan.middleWay(3), 18 + 40);
  }

  /** Uses up door numbers, so that the next one is this. */
  private static void useUp(ClerestoryPlan plan, int next) {
    for (int i = plan.doors(); i < next; i++) {
      plan.removeDoor(plan.addDoor(0, -1, 0, 0, false, 1));
    }
  }

  /** Promise 18; "of several the one with the smallest number". */
  private static void tieOfDoors() {
    ClerestoryPlan plan = hall(0);
    plan.addDoor(0, -1, 10, 4, true, 2);
    useUp(plan, 38);
    Due.is("5: the last but one", plan.addDoor(0, -1, 0, 4, true, 2), 38);
    Due.is("5: the last", plan.addDoor(0, -1, 4, 10, false, 2), 39);
    Due.is("18: of 0, 38 and 39", plan.leaving(0), 0);
    plan.shut(0, true);
    Due.is("18: of 38 and 39", plan.leaving(0), 38);
    plan.removeDoor(38);
    Due.is("18: 39 alone", plan.leaving(0), 39);
    plan.shut(0, false);
    Due.is("18: of 0 and 39", plan.leaving(0), 0);
  }

  private static void tieOfStairs() {
    ClerestoryPlan plan = Plans.tower();
    plan.addDoor(1, -1, 4, 0, false, 2);
    for (int i = 0; i < 10; i++) {
      plan.addStairs(1, 2, 3, 3);
    }
    plan.setPeople(2, 7);
    Due.is("18: of ten at one point", plan.leaving(2), 100);
    Due.is("23: all by the first", plan.stairsLoad(0), 7);
    for (int stairs = 1; stairs < 10; stairs++) {
      Due.is("23: nobody by " + stairs, plan.stairsLoad(stairs), 0);
    }
  }

  /** Promise 18; "of several DOORS ahead of STAIRS": 50 by stairs 0, 50 by door 39 and stairs 1. */
  private static void tieOfTheLastDoorAndTheFirstStairs() {
    ClerestoryPlan plan = new ClerestoryPlan();
    plan.addRoom(0, 0, 0, 20, 10, 1);
    plan.addRoom(1, 0, 0, 10, 10, 1);
    plan.addRoom(1, 10, 0, 10, 10, 1);
    plan.addStairs(0, 1, 5, 5);
    plan.addStairs(0, 2, 12, 5);
    plan.addDoor(0, -1, 20, 4, true, 2);
    useUp(plan, 39);
    Due.is("18: by stairs 0", plan.leaving(1), 100);
    Due.is("5: the last one", plan.addDoor(2, 1, 10, 4, true, 2), 39);
    Due.is("19: as far", plan.middleWay(1), 50);
    Due.is("18: by door 39", plan.leaving(1), 39);
    plan.setPeople(1, 6);
    Due.is("22: all by door 39", plan.load(39), 6);
    Due.is("23: and down by stairs 1", plan.stairsLoad(1), 6);
    Due.is("23: none by stairs 0", plan.stairsLoad(0), 0);
  }

  private static void lastStairs() {
    ClerestoryPlan plan = Plans.tower();
    plan.addDoor(1, -1, 4, 0, false, 2);
    for (int i = 0; i < 9; i++) {
      plan.addStairs(1, 2, 0, 0);
    }
    Due.is("19: by (0, 0)", plan.middleWay(2), 20 + 20 + 10);
    plan.addStairs(1, 2, 5, 5);
    Due.is("18: 100 + the last", plan.leaving(2), 109);
    Due.is("19: straight down", plan.middleWay(2), 20 + 10);
    plan.setPeople(2, 200);
    Due.is("23: by the last", plan.stairsLoad(9), 200);
  }

  /** Promise 20; "A ROOM from which one would so come to no end is a TRAP", the least ring. */
  private static void trapOfTwo() {
    ClerestoryPlan plan = Plans.trap();
    plan.setPeople(0, 30);
    plan.setPeople(1, 20);
    for (int room = 0; room <= 1; room++) {
      Due.is("18: to the other one", plan.leaving(room), room);
      Due.is("19: (20, 2), (21, 4), (20, 7) or so", plan.middleWay(room), 7);
      Due.is("17: from (0, 0) by (21, 4) or so", plan.farWay(room), 29);
      Due.is("16: not LOST", plan.isLost(room), false);
      Due.is("20: a TRAP", plan.depth(room), -1);
    }
    for (int door = 0; door < 4; door++) {
      Due.is("22: no LOAD of TRAPS", plan.load(door), 0);
    }
    plan.shut(2, true);
    Due.is("20: no TRAP any more", plan.depth(1), 1);
    Due.is("20: nor the other one", plan.depth(0), 2);
    Due.is("22: by door 0", plan.load(0), 30);
    Due.is("22: OUT", plan.load(3), 50);
  }

  /** One that leads into a TRAP is one, as well; one beside it that comes OUT is not. */
  private static void intoATrap() {
    ClerestoryPlan plan = Plans.trap();
    plan.addRoom(1, 0, 0, 20, 2, 1);
    plan.addStairs(0, 2, 10, 1);
    plan.addRoom(0, 0, 20, 5, 5, 1);
    plan.addDoor(3, -1, 0, 20, true, 1);
    plan.setPeople(2, 9);
    plan.setPeople(3, 4);
    Due.is("18: down", plan.leaving(2), 100);
    Due.is("19: down, and as from there", plan.middleWay(2), 20 + 7);
    Due.is("20: into a TRAP", plan.depth(2), -1);
    Due.is("16: but not LOST", plan.isLost(2), false);
    Due.is("23: no LOAD of TRAPS", plan.stairsLoad(0), 0);
    Due.is("20: beside it", plan.depth(3), 1);
    Due.is("22: beside it", plan.load(4), 4);
  }

  /** Promises 20 and 22; all rooms in a row, with all the people that there can be. */
  private static void twentyDeep() {
    ClerestoryPlan plan = Plans.row(20);
    for (int room = 0; room < 20; room++) {
      plan.setPeople(room, 200);
      Due.is("20: room " + room, plan.depth(room), room + 1);
    }
    for (int door = 0; door < 20; door++) {
      Due.is("22: door " + door, plan.load(door), 200 * (20 - door));
    }
    Due.is("19: from (117, 3) to (0, 3)", plan.middleWay(19), 117);
    Due.is("17: from (120, 0) by (114, 3)", plan.farWay(19), 123);
  }

  private static void loadOfNobody() {
    ClerestoryPlan plan = Plans.pair();
    Due.is("22: nobody is there", plan.load(1), 0);
    Due.is("23: nobody is above", plan.stairsLoad(0), 0);
    plan.setPeople(2, 1);
    Due.is("22: one", plan.load(1), 1);
    Due.is("23: one", plan.stairsLoad(0), 1);
  }

  /** Promises 16 to 20; "if there is no such ROOM, or it is GONE". */
  private static void noSuchRoom() {
    ClerestoryPlan plan = Plans.row(20);
    plan.removeRoom(19);
    for (int wrong : new int[] {-1, 19, 20, 100, Integer.MIN_VALUE, Integer.MAX_VALUE}) {
      Due.noSuch("16: room " + wrong, plan, () -> plan.isLost(wrong));
      Due.noSuch("17: room " + wrong, plan, () -> plan.farWay(wrong));
      Due.noSuch("18: room " + wrong, plan, () -> plan.leaving(wrong));
      Due.noSuch("19: room " + wrong, plan, () -> plan.middleWay(wrong));
      Due.noSuch("20: room " + wrong, plan, () -> plan.depth(wrong));
    }
    Due.is("20: the last one that is there", plan.depth(18), 19);
  }

  /** Promises 21 and 22; "if there is no such DOOR, or it is GONE". */
  private static void noSuchDoor() {
    ClerestoryPlan plan = hall(0);
    plan.addDoor(0, -1, 4, 0, false, 1);
    useUp(plan, 39);
    plan.addDoor(0, -1, 4, 10, false, 1);
    Due.is("21: the last one", plan.way(39, false), 0);
    Due.is("22: the last one", plan.load(39), 0);
    for (int wrong : new int[] {-1, 1, 38, 40, 100, Integer.MIN_VALUE, Integer.MAX_VALUE}) {
      Due.noSuch("21: door " + wrong, plan, () -> plan.way(wrong, false));
      Due.noSuch("21: door " + wrong + ", back", plan, () -> plan.way(wrong, true));
      Due.noSuch("22: door " + wrong, plan, () -> plan.load(wrong));
    }
  }

  /** Promise 23; "if there is no such STAIRS, or they are GONE". */
  private static void noSuchStairs() {
    ClerestoryPlan plan = Plans.tower();
    for (int i = 0; i < 10; i++) {
      plan.addStairs(i % 2 + 1, i % 2 + 2, 5, 5);
    }
    Due.is("23: the last ones", plan.stairsLoad(9), 0);
    for (int wrong : new int[] {-1, 10, 100, 109, Integer.MIN_VALUE, Integer.MAX_VALUE}) {
      Due.noSuch("23: stairs " + wrong, plan, () -> plan.stairsLoad(wrong));
    }
    plan.removeRoom(3);
    for (int gone = 1; gone < 10; gone += 2) {
      int wrong = gone;
      Due.noSuch("23: GONE " + wrong, plan, () -> plan.stairsLoad(wrong));
      Due.is("23: those that are not", plan.stairsLoad(gone - 1), 0);
    }
  }
}
