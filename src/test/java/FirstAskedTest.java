import java.util.List;
import java.util.function.ToLongFunction;

/**
 * Each asking call as the first one behind each changing call, of a plan of which all was asked already: what
 * was reckoned before may not be told again. It is compared with a plan that was never asked before.
 */
public final class FirstAskedTest {
  private static final String[] CHANGES = {
    "addRoom", "removeRoom", "setPeople", "addDoor", "addWindow", "addStairs", "shut", "removeDoor", "setLimit"
  };

  /** A question, with the number of its promise. */
  private record Ask(String name, ToLongFunction<ClerestoryPlan> call) {
  }

  private static final List<Ask> ASKS = List.of(
      new Ask("11: rooms", p -> p.rooms()),
      new Ask("12: doors", p -> p.doors()),
      new Ask("13: stairs", p -> p.stairs()),
      new Ask("14: roomAt", p -> p.roomAt(0, 12, 5)),
      new Ask("15: areJoined", p -> p.areJoined(0, 1) ? 1 : 0),
      new Ask("16: isLost", p -> p.isLost(0) ? 1 : 0),
      new Ask("17: farWay", p -> p.farWay(2)),
      new Ask("18: leaving", p -> p.leaving(0)),
      new Ask("19: middleWay", p -> p.middleWay(2)),
      new Ask("20: depth", p -> p.depth(2)),
      new Ask("21: way", p -> p.way(0, false)),
      new Ask("22: load", p -> p.load(0)),
      new Ask("22: load of door 1", p -> p.load(1)),
      new Ask("23: stairsLoad", p -> p.stairsLoad(0)),
      new Ask("24: timeOut", p -> p.timeOut()),
      new Ask("25: left", p -> p.left(2)),
      new Ask("26: inRoom", p -> p.inRoom(0, 2)),
      new Ask("27: faults", p -> p.faults()),
      new Ask("28: ruleOf", p -> p.ruleOf(0)),
      new Ask("28: ruleOf 3", p -> p.ruleOf(3)),
      new Ask("29: whereOf", p -> p.whereOf(0)),
      new Ask("30: howMuch", p -> p.howMuch(0)),
      new Ask("30: howMuch 3", p -> p.howMuch(3)),
      new Ask("31: broken", p -> p.broken(0)),
      new Ask("31: broken 3", p -> p.broken(3)),
      new Ask("31: broken 4", p -> p.broken(4)),
      new Ask("32: meanWay", p -> Double.doubleToLongBits(p.meanWay())),
      new Ask("33: faultsWith", p -> p.faultsWith(0)),
      new Ask("34: lostWithout", p -> p.lostWithout(0)),
      new Ask("35: timeWith", p -> p.timeWith(1, 6)),
      new Ask("36: mostPeople", p -> p.mostPeople(0)),
      new Ask("37: digest", p -> p.digest()));

  /** Those behind which nothing may be changed. */
  private static final List<Ask> QUESTIONS = List.of(
      new Ask("33", p -> p.faultsWith(0)),
      new Ask("34", p -> p.lostWithout(1)),
      new Ask("35", p -> p.timeWith(1, 6)),
      new Ask("36", p -> p.mostPeople(0)),
      new Ask("37", p -> p.digest()));

  public static void main(String[] args) {
    for (int change = 0; change < CHANGES.length; change++) {
      for (Ask ask : ASKS) {
        ClerestoryPlan asked = plan();
        asked.digest();
        change(asked, change);
        ClerestoryPlan fresh = plan();
        change(fresh, change);
        Due.is(ask.name + " behind " + CHANGES[change], outcome(asked, ask), outcome(fresh, ask));
        ClerestoryPlan twice = plan();
        change(twice, change);
        twice.digest();
        Due.is(ask.name + " behind all others", outcome(twice, ask), outcome(fresh, ask));
      }
    }
    behindWhatWouldBe();
    Due.end();
  }

  private static ClerestoryPlan plan() {
    ClerestoryPlan plan = Plans.pair();
    plan.addRoom(0, 20, 0, 3, 3, 0);
    plan.addRoom(1, 10, 0, 10, 10, 3);
    for (int room = 0; room < 5; room++) {
      plan.setPeople(room, 9 + room);
    }
    return plan;
  }

  private static void change(ClerestoryPlan plan, int change) {
    switch (change) {
      case 0 -> plan.addRoom(0, 0, 10, 14, 14, 0);
      case 1 -> plan.removeRoom(1);
      case 2 -> plan.setPeople(1, 150);
      case 3 -> plan.addDoor(0, -1, 0, 4, true, 1);
      case 4 -> plan.addWindow(3, 23, 0, true, 1);
      case 5 -> plan.addStairs(1, 4, 15, 5);
      case 6 -> plan.shut(0, true);
      case 7 -> plan.removeDoor(1);
      default -> plan.setLimit(3, 0);
    }
  }

  private static String outcome(ClerestoryPlan plan, Ask ask) {
    try {
      return String.valueOf(ask.call.applyAsLong(plan));
    } catch (RuntimeException e) {
      return e.getClass().getSimpleName();
    }
  }

  /** "(nothing is changed)": each asking call behind a question of what would be. */
  private static void behindWhatWouldBe() {
    for (Ask question : QUESTIONS) {
      for (Ask ask : ASKS) {
        ClerestoryPlan asked = plan();
        question.call.applyAsLong(asked);
        Due.is(ask.name + " behind " + question.name, outcome(asked, ask), outcome(plan(), ask));
      }
    }
  }
}
