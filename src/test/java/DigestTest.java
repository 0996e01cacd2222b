import java.util.ArrayList;
import java.util.List;

/** Promise 37: the digest, from the other calls' answers in the order that is told. */
public final class DigestTest {
  public static void main(String[] args) {
    ClerestoryPlan empty = new ClerestoryPlan();
    Due.is("37: a new plan", empty.digest(), 2363422302503L);
    ClerestoryPlan pair = Plans.pair();
    check("pair", pair, 3, 2, 1);
    pair.setPeople(0, 40);
    pair.setPeople(2, 90);
    check("pair with people", pair, 3, 2, 1);
    pair.shut(0, true);
    check("pair, SHUT", pair, 3, 2, 1);
    ClerestoryPlan ring = Plans.ring();
    ring.setPeople(1, 7);
    check("ring", ring, 4, 8, 0);
    ring.removeDoor(5);
    ring.removeRoom(0);
    check("ring, some GONE", ring, 4, 8, 0);
    gone();
    full();
    Due.end();
  }

  private static void gone() {
    ClerestoryPlan plan = Plans.pair();
    plan.addStairs(0, 2, 5, 5);
    plan.addRoom(0, 40, 0, 13, 14, 0);
    plan.setPeople(3, 9);
    plan.setPeople(1, 4);
    plan.setPeople(2, 3);
    Due.is("23: those of stairs 1", plan.stairsLoad(1), 3);
    check("stairs", plan, 4, 2, 2);
    plan.removeRoom(2);
    check("stairs GONE", plan, 4, 2, 2);
    Due.is("37: asked again", plan.digest(), plan.digest());
  }

  /** All numbers that there can be; only ONE WAY is broken, as 512 calls are not enough for all faults. */
  private static void full() {
    ClerestoryPlan plan = Plans.full();
    plan.setLimit(2, 999);
    plan.setLimit(3, 0);
    plan.setLimit(8, 999);
    check("full", plan, 20, 40, 10);
  }

  private static void check(String what, ClerestoryPlan plan, int rooms, int doors, int stairs) {
    List<Long> all = new ArrayList<>();
    add(all, plan.rooms(), plan.doors(), plan.stairs(), plan.timeOut(), plan.left(3));
    for (int i = 0; i < rooms; i++) {
      int room = i;
      if (Due.thrownBy(() -> plan.isLost(room)).equals("nothing")) {
        add(all, room, plan.isLost(room) ? 1 : 0, plan.farWay(room), plan.leaving(room), plan.middleWay(room),
            plan.depth(room), plan.inRoom(room, 2), plan.mostPeople(room));
      }
    }
    for (int i = 0; i < doors; i++) {
      int door = i;
      if (Due.thrownBy(() -> plan.load(door)).equals("nothing")) {
        add(all, door, plan.way(door, false), plan.way(door, true), plan.load(door));
      }
    }
    for (int i = 0; i < stairs; i++) {
      int number = i;
      if (Due.thrownBy(() -> plan.stairsLoad(number)).equals("nothing")) {
        add(all, number, plan.stairsLoad(number));
      }
    }
    int faults = plan.faults();
    add(all, faults);
    for (int i = 0; i < faults; i++) {
      add(all, plan.ruleOf(i), plan.whereOf(i), plan.howMuch(i));
    }
    long d = 2663;
    for (long v : all) {
      d = d * 31 + v;
    }
    Due.is("37: " + what, plan.digest(), d);
  }

  private static void add(List<Long> all, long... values) {
    for (long value : values) {
      all.add(value);
    }
  }
}
