/** The bounds that section 3 names, with what promises 24 to 26 say of them. */
public final class BoundsTimeTest {
  public static void main(String[] args) {
    nobodyAtTheBeginning();
    widthTimesTwo();
    threeOnStairs();
    asTheTickBegins();
    whoeverHasTheSmallerNumber();
    oneMoreTickForOneMore();
    tickZero();
    lastTick();
    beyondTheTicks();
    lostOnesAndTrapsStay();
    noSuchRoom();
    longerThanAllTicks();
    Due.end();
  }

  /** Promise 24; "(0, if nobody is at the beginning)", and if nobody is in such ROOMS. */
  private static void nobodyAtTheBeginning() {
    Due.is("24: a new plan", new ClerestoryPlan().timeOut(), 0);
    ClerestoryPlan plan = Plans.pair();
    Due.is("24: nobody", plan.timeOut(), 0);
    Due.is("25: nobody", plan.left(0), 0);
    plan.setPeople(0, 1);
    Due.is("24: one", plan.timeOut(), 2);
    plan.setPeople(0, 0);
    Due.is("24: nobody any more", plan.timeOut(), 0);
    ClerestoryPlan lost = Plans.tower();
    lost.setPeople(2, 200);
    Due.is("24: only in a LOST room", lost.timeOut(), 0);
    ClerestoryPlan trap = Plans.trap();
    trap.setPeople(0, 200);
    Due.is("24: only in a TRAP", trap.timeOut(), 0);
  }

  /** "as many ... as it is WIDE times 2, if so many are in it as the tick begins, otherwise all of these". */
  private static void widthTimesTwo() {
    for (int wide = 1; wide <= 6; wide++) {
      ClerestoryPlan plan = Plans.hall(10, 10, wide);
      plan.setPeople(0, 2 * wide - 1);
      Due.is("25: one less, wide " + wide, plan.left(1), 0);
      Due.is("24: one less, wide " + wide, plan.timeOut(), 1);
      plan.setPeople(0, 2 * wide);
      Due.is("25: so many, wide " + wide, plan.left(1), 0);
      Due.is("24: so many, wide " + wide, plan.timeOut(), 1);
      plan.setPeople(0, 2 * wide + 1);
      Due.is("25: one more, wide " + wide, plan.left(1), 1);
      Due.is("26: one more, wide " + wide, plan.inRoom(0, 1), 1);
      Due.is("24: one more, wide " + wide, plan.timeOut(), 2);
    }
  }

  /** "(3 in all, if it is STAIRS)". */
  private static void threeOnStairs() {
    for (int people = 0; people <= 7; people++) {
      ClerestoryPlan plan = Plans.pair();
      plan.setPeople(2, people);
      Due.is("26: above, of " + people, plan.inRoom(2, 1), Math.max(0, people - 3));
      Due.is("26: below, of " + people, plan.inRoom(0, 1), Math.min(3, people));
      Due.is("25: all of " + people, plan.left(1), people);
    }
  }

  /** Who comes in a tick goes on in the next one. */
  private static void asTheTickBegins() {
    ClerestoryPlan plan = Plans.row(3);
    plan.setPeople(2, 2);
    int[][] inside = {{0, 0, 2}, {0, 2, 0}, {2, 0, 0}, {0, 0, 0}};
    for (int tick = 0; tick < inside.length; tick++) {
      for (int room = 0; room < 3; room++) {
        Due.is("26: room " + room + " behind " + tick, plan.inRoom(room, tick), inside[tick][room]);
      }
    }
    Due.is("24: a tick for each room", plan.timeOut(), 3);
    plan.setPeople(1, 1);
    Due.is("26: one goes, two come", plan.inRoom(1, 1), 2);
    Due.is("26: one has come", plan.inRoom(0, 1), 1);
    Due.is("24: nobody waits", plan.timeOut(), 3);
  }

  /** The same, led from the smaller to the greater number. */
  private static void whoeverHasTheSmallerNumber() {
    ClerestoryPlan plan = new ClerestoryPlan();
    plan.addRoom(0, 6, 0, 3, 3, 1);
    plan.addRoom(0, 3, 0, 3, 3, 1);
    plan.addRoom(0, 0, 0, 3, 3, 1);
    plan.addDoor(0, 1, 6, 1, true, 1);
    plan.addDoor(1, 2, 3, 1, true, 1);
    plan.addDoor(2, -1, 0, 1, true, 1);
    plan.setPeople(0, 2);
    Due.is("26: they are in the next one", plan.inRoom(1, 1), 2);
    Due.is("26: not yet in the one behind it", plan.inRoom(2, 1), 0);
    Due.is("24: a tick for each room", plan.timeOut(), 3);
  }

  /** Promise 24; "how many ticks it takes till nobody is left". */
  private static void oneMoreTickForOneMore() {
    ClerestoryPlan plan = Plans.hall(10, 10, 1);
    for (int people = 0; people <= 200; people += 25) {
      plan.setPeople(0, people);
      int time = (people + 1) / 2;
      Due.is("24: of " + people, plan.timeOut(), time);
      Due.is("25: behind it", plan.left(time), 0);
      if (time > 0) {
        Due.is("25: one tick ahead of it", plan.left(time - 1) > 0, true);
      }
    }
  }

  /** Promises 25 and 26; "All begin at the tick 0". */
  private static void tickZero() {
    ClerestoryPlan plan = Plans.pair();
    plan.setPeople(0, 200);
    plan.setPeople(1, 1);
    Due.is("25: tick 0", plan.left(0), 201);
    Due.is("26: tick 0, room 0", plan.inRoom(0, 0), 200);
    Due.is("26: tick 0, room 1", plan.inRoom(1, 0), 1);
    Due.is("26: tick 0, room 2", plan.inRoom(2, 0), 0);
  }

  private static void lastTick() {
    ClerestoryPlan plan = Plans.row(20);
    for (int room = 0; room < 20; room++) {
      plan.setPeople(room, 200);
    }
    Due.is("25: tick 998", plan.left(998), 4000 - 2 * 998);
    Due.is("25: tick 999", plan.left(999), 4000 - 2 * 999);
    Due.is("26: tick 999, room 0", plan.inRoom(0, 999), 200);
    Due.is("26: tick 999, room 10", plan.inRoom(10, 999), 2);
    Due.is("26: tick 999, room 19", plan.inRoom(19, 999), 0);
  }

  /** Promises 25 and 26; "if tick is not 0 to 999". */
  private static void beyondTheTicks() {
    ClerestoryPlan empty = new ClerestoryPlan();
    ClerestoryPlan plan = Plans.pair();
    plan.setPeople(0, 5);
    for (int wrong : new int[] {-1, 1000, Integer.MIN_VALUE, Integer.MAX_VALUE}) {
      Due.badArgument("25: tick " + wrong, plan, () -> plan.left(wrong));
      Due.badArgument("26: tick " + wrong, plan, () -> plan.inRoom(0, wrong));
      Due.badArgument("25: tick " + wrong + " of a new plan", empty, () -> empty.left(wrong));
    }
    Due.is("25: as before", plan.left(0), 5);
  }

  /** Promises 25 and 26; "those in LOST ROOMS and TRAPS, too". */
  private static void lostOnesAndTrapsStay() {
    ClerestoryPlan plan = Plans.trap();
    plan.addRoom(0, 0, 20, 5, 5, 1);
    plan.addRoom(0, 5, 20, 5, 5, 1);
    plan.addDoor(3, -1, 10, 20, true, 1);
    for (int room = 0; room < 4; room++) {
      plan.setPeople(room, 10 * (room + 1));
    }
    Due.is("24: only those of room 3", plan.timeOut(), 20);
    for (int tick : new int[] {0, 1, 19, 20, 999}) {
      Due.is("26: a TRAP behind " + tick, plan.inRoom(0, tick), 10);
      Due.is("26: the other TRAP behind " + tick, plan.inRoom(1, tick), 20);
      Due.is("26: a LOST room behind " + tick, plan.inRoom(2, tick), 30);
      int there = Math.max(0, 40 - 2 * tick);
      Due.is("26: room 3 behind " + tick, plan.inRoom(3, tick), there);
      Due.is("25: all behind " + tick, plan.left(tick), 60 + there);
    }
  }

  /** Promise 26; "if there is no such ROOM, or it is GONE", ahead of a wrong tick. */
  private static void noSuchRoom() {
    ClerestoryPlan plan = Plans.row(20);
    plan.removeRoom(5);
    for (int wrong : new int[] {-1, 5, 20, Integer.MIN_VALUE, Integer.MAX_VALUE}) {
      for (int tick : new int[] {0, 999, -1, 1000}) {
        Due.noSuch("26: room " + wrong + ", tick " + tick, plan, () -> plan.inRoom(wrong, tick));
      }
    }
  }

  private static void longerThanAllTicks() {
    ClerestoryPlan plan = Plans.row(20);
    for (int room = 0; room < 20; room++) {
      plan.setPeople(room, 200);
    }
    Due.is("24: 4000, two in a tick", plan.timeOut(), 2000);
    plan.setPeople(0, 199);
    Due.is("24: one less", plan.timeOut(), 2000);
    plan.setPeople(0, 198);
    Due.is("24: two less", plan.timeOut(), 1999);
  }
}
