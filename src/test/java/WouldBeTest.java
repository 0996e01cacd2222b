/** Promises 33 to 36: what would be; nothing is changed by asking. Their bounds are in BoundsWouldBeTest. */
public final class WouldBeTest {
  public static void main(String[] args) {
    faultsWith();
    lostWithout();
    timeWith();
    mostPeople();
    Due.end();
  }

  private static ClerestoryPlan start() {
    ClerestoryPlan plan = Plans.pair();
    plan.setPeople(0, 5);
    plan.setPeople(1, 7);
    plan.setPeople(2, 11);
    return plan;
  }

  private static void faultsWith() {
    ClerestoryPlan plan = start();
    long before = plan.digest();
    Due.is("27: crowded is door 1", plan.faults(), 1);
    Due.is("33: two rooms would be lost, no door crowded", plan.faultsWith(0), 2);
    Due.is("33: all would be lost", plan.faultsWith(1), 3);
    Due.is("33: nothing is changed", plan.digest(), before);
    plan.shut(1, true);
    before = plan.digest();
    Due.is("27: all are lost", plan.faults(), 3);
    Due.is("33: if it was opened", plan.faultsWith(1), 1);
    Due.is("33: if the other one was SHUT, too", plan.faultsWith(0), 3);
    Due.is("33: nothing is changed then", plan.digest(), before);
    Due.is("33: nor whether it is SHUT", plan.shut(1, false), true);
    Due.is("33: nor the other one", plan.shut(0, false), false);
  }

  private static void lostWithout() {
    ClerestoryPlan plan = start();
    long before = plan.digest();
    Due.is("34: those of two rooms", plan.lostWithout(0), 16);
    Due.is("34: all", plan.lostWithout(1), 23);
    Due.is("34: nothing is changed", plan.digest(), before);
    plan.shut(0, true);
    Due.is("34: it is SHUT", plan.lostWithout(0), 0);
    Due.is("34: still SHUT", plan.shut(0, true), true);
    Due.is("34: only those more", plan.lostWithout(1), 7);
    ClerestoryPlan ring = Plans.ring();
    for (int room = 0; room < 4; room++) {
      ring.setPeople(room, 10 + room);
    }
    Due.is("34: fewer, as no trap is left", ring.lostWithout(7), -46);
    Due.is("34: none more, as traps stay traps", ring.lostWithout(4) <= 0, true);
    ring.shut(7, true);
    Due.is("34: out of the traps, three rooms would be", ring.lostWithout(6), 0);
    Due.is("34: it is SHUT in the ring", ring.lostWithout(7), 0);
  }

  private static void timeWith() {
    ClerestoryPlan plan = start();
    long before = plan.digest();
    int[] door = {12, 6, 6, 6, 6, 6};
    for (int wide = 1; wide <= 6; wide++) {
      Due.is("35: door 0 wide " + wide, plan.timeWith(0, wide), 12);
      Due.is("35: door 1 wide " + wide, plan.timeWith(1, wide), door[wide - 1]);
    }
    Due.is("35: nothing is changed", plan.digest(), before);
    Due.is("24: so", plan.timeOut(), 12);
    plan.shut(0, true);
    Due.is("35: SHUT, it makes no difference", plan.timeWith(0, 6), plan.timeOut());
    ClerestoryPlan hall = Plans.hall(30, 4, 6);
    hall.addDoor(0, -1, 20, 0, false, 1);
    hall.setPeople(0, 40);
    Due.is("18: the middle (30, 4) is nearer to (41, 0)", hall.leaving(0), 1);
    Due.is("35: its middle point stays", hall.timeWith(1, 6), 4);
    Due.is("35: the other one is not the leaving", hall.timeWith(0, 1), 20);
  }

  private static void mostPeople() {
    ClerestoryPlan plan = Plans.pair();
    long before = plan.digest();
    Due.is("36: 100 units", plan.mostPeople(0), 25);
    Due.is("36: nothing is changed", plan.digest(), before);
    plan.setLimit(3, 3);
    Due.is("36: cut", plan.mostPeople(0), 33);
    plan.setLimit(3, 1);
    Due.is("36: two ways", plan.mostPeople(0), 100);
    Due.is("36: one way", plan.mostPeople(2), 50);
    plan.setLimit(3, 0);
    Due.is("36: 200 at most", plan.mostPeople(1), 200);
    Due.is("36: one way, nothing else", plan.mostPeople(2), 50);
    plan.setLimit(6, 0);
    Due.is("36: nobody", plan.mostPeople(2), 0);
    plan.setLimit(6, 999);
    Due.is("36: 200 at most, one way", plan.mostPeople(2), 200);
    plan.setLimit(6, 20);
    plan.shut(0, true);
    Due.is("36: a SHUT door is none", plan.mostPeople(0), 20);
    plan.setPeople(0, 150);
    Due.is("36: whatever its people are", plan.mostPeople(0), 20);
    plan.setLimit(3, 999);
    Due.is("36: no room for one", plan.mostPeople(0), 0);
    plan.removeRoom(0);
    plan.setLimit(3, 1);
    Due.is("36: without any way", plan.mostPeople(2), 20);
  }
}
