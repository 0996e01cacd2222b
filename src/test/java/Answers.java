import java.util.function.LongSupplier;

/**
 * All that can be asked of a plan, told in one text, also what the digest does not tell: limits, windows,
 * which doors are SHUT, which numbers come next. The plan is used up by it (some 200 calls).
 */
final class Answers {
  private final ClerestoryPlan plan;
  private final StringBuilder told = new StringBuilder();

  private Answers(ClerestoryPlan plan) {
    this.plan = plan;
  }

  static String of(ClerestoryPlan plan) {
    Answers answers = new Answers(plan);
    answers.asked();
    answers.changed();
    answers.putIn();
    answers.takenAway();
    return answers.told.toString();
  }

  private void tell(String what, LongSupplier call) {
    told.append(what).append('=');
    try {
      told.append(call.getAsLong());
    } catch (RuntimeException e) {
      told.append(e.getClass().getSimpleName());
    }
    told.append(' ');
  }

  private void asked() {
    tell("digest", plan::digest);
    tell("left(999)", () -> plan.left(999));
    tell("meanWay", () -> Double.doubleToLongBits(plan.meanWay()));
    for (int i = 0; i < 4; i++) {
      int one = i;
      int other = (i + 1) % 3;
      tell("areJoined", () -> plan.areJoined(one, other) ? 1 : 0);
      tell("roomAt", () -> plan.roomAt(0, 7 * one, 7 * one));
      tell("roomAt above", () -> plan.roomAt(1, 7 * one, 7 * one));
    }
  }

  private void changed() {
    for (int i = 0; i < 10; i++) {
      int rule = i;
      tell("setLimit " + i, () -> plan.setLimit(rule, rule == 4 ? 999 : 0));
    }
    tell("digest, other limits", plan::digest);
    for (int i = 0; i < 6; i++) {
      int number = i;
      tell("shut " + i, () -> plan.shut(number, false) ? 1 : 0);
      tell("setPeople " + i, () -> plan.setPeople(number, 20 + number));
    }
    tell("digest, all open", plan::digest);
  }

  /** The walls of room 0 begin at (0, 0) in each plan of RefusedTest. */
  private void putIn() {
    for (int i = 0; i < 10; i++) {
      int start = i;
      tell("addDoor below " + i, () -> plan.addDoor(0, -1, start, 0, false, 1));
      tell("addWindow to the left " + i, () -> plan.addWindow(0, 0, start, true, 1));
    }
    tell("addDoor between", () -> plan.addDoor(0, 1, 10, 8, true, 1));
    tell("addWindow above", () -> plan.addWindow(2, 0, 0, true, 1));
    tell("addStairs", () -> plan.addStairs(0, 2, 9, 9));
    tell("addRoom", () -> plan.addRoom(0, 60, 60, 30, 30, 0));
    tell("addRoom above", () -> plan.addRoom(2, 60, 60, 30, 30, 3));
    tell("digest, with these", plan::digest);
  }

  private void takenAway() {
    for (int i = 0; i < 4; i++) {
      int number = i;
      tell("removeDoor " + i, () -> plan.removeDoor(number));
    }
    for (int i = 0; i < 20; i++) {
      int number = i;
      tell("removeRoom " + i, () -> plan.removeRoom(number));
    }
    tell("digest, none left", plan::digest);
  }
}
