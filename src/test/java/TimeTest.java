/** Promises 24 to 26: time. Their bounds are in BoundsTimeTest. */
public final class TimeTest {
  public static void main(String[] args) {
    tickByTick();
    oneDoor();
    stairs();
    lostAndTraps();
    Due.end();
  }

  private static void tickByTick() {
    ClerestoryPlan plan = Plans.pair();
    plan.setPeople(0, 5);
    plan.setPeople(1, 7);
    plan.setPeople(2, 11);
    int[][] inside = {{5, 7, 11}, {4, 9, 8}, {3, 11, 5}, {3, 12, 2}, {2, 13, 0}, {0, 13, 0}, {0, 11, 0}};
    for (int tick = 0; tick < inside.length; tick++) {
      int left = 0;
      for (int room = 0; room < 3; room++) {
        Due.is("26: room " + room + " behind " + tick, plan.inRoom(room, tick), inside[tick][room]);
        left += inside[tick][room];
      }
      Due.is("25: left behind " + tick, plan.left(tick), left);
    }
    Due.is("24: 23 by 2 in a tick", plan.timeOut(), 12);
    Due.is("25: one tick ahead of that", plan.left(11), 1);
    Due.is("25: then", plan.left(12), 0);
    Due.is("26: then", plan.inRoom(1, 999), 0);
    Due.is("25: asked again", plan.left(0), 23);
  }

  private static void oneDoor() {
    for (int wide = 1; wide <= 6; wide++) {
      ClerestoryPlan plan = Plans.hall(10, 10, wide);
      Due.is("24: nobody at the beginning", plan.timeOut(), 0);
      plan.setPeople(0, 24 * wide);
      Due.is("24: as many as it takes, wide " + wide, plan.timeOut(), 12);
      plan.setPeople(0, 24 * wide + 1);
      Due.is("24: one more, wide " + wide, plan.timeOut(), 13);
      Due.is("25: the last one", plan.left(12), 1);
      plan.setPeople(0, 1);
      Due.is("24: one", plan.timeOut(), 1);
    }
  }

  private static void stairs() {
    ClerestoryPlan plan = Plans.pair();
    plan.setPeople(2, 9);
    Due.is("26: three come down", plan.inRoom(2, 1), 6);
    Due.is("26: and are there", plan.inRoom(0, 1), 3);
    Due.is("24: nobody waits at the door till three are there", plan.timeOut(), 7);
  }

  private static void lostAndTraps() {
    ClerestoryPlan plan = Plans.pair();
    plan.setPeople(0, 5);
    plan.setPeople(1, 4);
    plan.shut(0, true);
    Due.is("24: only those that come out", plan.timeOut(), 2);
    Due.is("25: the lost ones are left", plan.left(999), 5);
    Due.is("26: the lost ones stay", plan.inRoom(0, 999), 5);
    plan.setPeople(1, 0);
    Due.is("24: only lost ones", plan.timeOut(), 0);
    ClerestoryPlan ring = Plans.ring();
    ring.setPeople(2, 9);
    Due.is("24: only in traps", ring.timeOut(), 0);
    Due.is("25: they are left", ring.left(7), 9);
    Due.is("26: they stay", ring.inRoom(2, 7), 9);
    Due.is("26: nobody comes to the next one", ring.inRoom(3, 7), 0);
  }
}
