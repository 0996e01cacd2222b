import java.util.Random;
import java.util.function.LongSupplier;

/**
 * Runs of calls drawn by fixed seeds, in which each answer of the class is compared with that of SlowPlan;
 * all promises, with many wrong inputs, and all kinds of states. Arguments: the first seed, how many runs.
 */
public final class RandomPlansTest {
  private static final int CALLS = 512;
  private final Random random;
  private final ClerestoryPlan plan = new ClerestoryPlan();
  private final SlowPlan slow = new SlowPlan();
  private final long seed;
  /** The plans of a grid have many doors and rings, the others many rooms of all sizes. */
  private final int grid;
  private final int changes;
  private int calls = 0;
  private int lastRoom = 0;

  private RandomPlansTest(long seed) {
    this.seed = seed;
    random = new Random(seed);
    grid = random.nextInt(3) == 0 ? 0 : 2 + random.nextInt(5);
    changes = 30 + random.nextInt(180);
  }

  public static void main(String[] args) {
    long first = args.length > 0 ? Long.parseLong(args[0]) : 1;
    int runs = args.length > 1 ? Integer.parseInt(args[1]) : 40;
    for (long seed = first; seed < first + runs; seed++) {
      new RandomPlansTest(seed).run();
    }
    Due.end();
  }

  private void run() {
    if (random.nextInt(4) == 0) {
      ring();
    }
    for (int i = 0; i < 8; i++) {
      addRoom();
    }
    for (int i = 0; i < 12; i++) {
      addDoor();
    }
    while (calls < CALLS - 1) {
      if (random.nextInt(CALLS) < changes) {
        change();
      } else {
        ask();
      }
    }
    compare("digest()", plan::digest, slow::digest);
  }

  private void compare(String what, LongSupplier got, LongSupplier want) {
    calls++;
    Due.is("seed " + seed + ", call " + calls + ": " + what, outcome(got), outcome(want));
  }

  private static String outcome(LongSupplier call) {
    try {
      return String.valueOf(call.getAsLong());
    } catch (RuntimeException e) {
      return "throws." + e.getClass().getSimpleName();
    }
  }

  private static long bit(boolean value) {
    return value ? 1 : 0;
  }

  private boolean isSeldom() {
    return random.nextInt(25) == 0;
  }

  /** Mostly from least to greatest, seldom beside them or far away. */
  private int number(int least, int greatest) {
    if (!isSeldom()) {
      return least + random.nextInt(greatest - least + 1);
    }
    int[] wrong = {least - 1, greatest + 1, least, greatest, Integer.MIN_VALUE, Integer.MAX_VALUE,
        Integer.MAX_VALUE - 1, -1, 0};
    return wrong[random.nextInt(wrong.length)];
  }

  private int room() {
    if (slow.halls.isEmpty() || isSeldom()) {
      return number(0, 20);
    }
    Integer[] all = slow.halls.keySet().toArray(new Integer[0]);
    return all[random.nextInt(all.length)];
  }

  private int door() {
    if (slow.doors.isEmpty() || isSeldom()) {
      return number(0, 40);
    }
    Integer[] all = slow.doors.keySet().toArray(new Integer[0]);
    return all[random.nextInt(all.length)];
  }

  /**
   * Four long rooms, each with its middle at the end of the next one, where that has a door OUT: most are
   * TRAPS. By chance, so that the doors are now here, now there.
   */
  private void ring() {
    int[][] rooms = {{0, 9, 20, 2}, {9, 11, 2, 20}, {11, 20, 20, 2}, {20, 0, 2, 20}};
    for (int[] at : rooms) {
      lay(0, at[0], at[1], at[2], at[3], random.nextInt(4));
    }
    putDoor(0, 1, new int[] {9, 11, 0, 1 + random.nextInt(2)});
    putDoor(1, 2, new int[] {11, 20, 1, 1 + random.nextInt(2)});
    putDoor(2, 3, new int[] {20, 20, 0, 1 + random.nextInt(2)});
    putDoor(3, 0, new int[] {20, 9, 1, 1 + random.nextInt(2)});
    int aside = random.nextInt(3);
    putDoor(0, -1, new int[] {17 + random.nextInt(2), 9, 0, 1 + random.nextInt(2)});
    putDoor(1, -1, new int[] {9, 11 + aside, 1, 1 + random.nextInt(3)});
    putDoor(2, -1, new int[] {11 + aside, 22, 0, 1 + random.nextInt(3)});
    putDoor(3, -1, new int[] {22, 17 + random.nextInt(2), 1, 1 + random.nextInt(2)});
    for (int room = 0; room < 4; room++) {
      people(room, random.nextInt(30));
    }
  }

  private void addRoom() {
    int size = grid == 0 ? 1 + random.nextInt(10) : grid;
    int floor = random.nextInt(3) == 0 ? 0 : number(0, 2);
    int x = grid == 0 ? number(0, 20) : grid * number(0, 3);
    int y = grid == 0 ? number(0, 20) : grid * number(0, 3);
    int w = number(1, 10) <= 5 ? size : number(1, 30);
    int h = number(1, 10) <= 5 ? size : number(1, 15);
    lay(floor, x, y, w, h, number(0, 3));
  }

  private void lay(int floor, int x, int y, int w, int h, int use) {
    compare("addRoom(" + floor + ", " + x + ", " + y + ", " + w + ", " + h + ", " + use + ")",
        () -> plan.addRoom(floor, x, y, w, h, use), () -> slow.addRoom(floor, x, y, w, h, use));
  }

  /** A place along a side of a room: x, y, 1 for upwards, how wide. */
  private int[] place(int room) {
    SlowPlan.Hall hall = slow.halls.get(room);
    int wide = random.nextInt(4) == 0 ? number(1, 6) : number(1, 2);
    int up = random.nextInt(2);
    if (hall == null || isSeldom()) {
      return new int[] {number(0, 90), number(0, 90), up, wide};
    }
    int along = random.nextInt((int) Math.max(1, (up == 1 ? hall.h : hall.w) - Math.floorMod(wide, 8) + 1));
    boolean isFar = random.nextBoolean();
    long x = hall.x + (up == 1 ? (isFar ? hall.w : 0) : along);
    long y = hall.y + (up == 1 ? along : (isFar ? hall.h : 0));
    return new int[] {(int) x, (int) y, up, wide};
  }

  private void addDoor() {
    int room = room();
    int[] at = place(room);
    int to = neighbour(room, at);
    for (int i = 0; i < 12 && to == -1 && slow.halls.containsKey(room) && !isSeldom()
        && (slow.halls.get(room).floor > 0 || random.nextInt(3) > 0); i++) {
      at = place(room);
      to = neighbour(room, at);
    }
    putDoor(room, to, at);
  }

  private void putDoor(int room, int to, int[] at) {
    compare("addDoor(" + room + ", " + to + ", " + at[0] + ", " + at[1] + ", " + (at[2] == 1) + ", " + at[3] + ")",
        () -> plan.addDoor(room, to, at[0], at[1], at[2] == 1, at[3]),
        () -> slow.addDoor(room, to, at[0], at[1], at[2] == 1, at[3]));
  }

  private int neighbour(int room, int[] at) {
    SlowPlan.Hall hall = slow.halls.get(room);
    if (hall == null || random.nextInt(12) == 0) {
      return random.nextBoolean() ? -1 : room();
    }
    int here = slow.roomAt(hall.floor, at[0], at[1]);
    if (here != room) {
      return here;
    }
    return slow.roomAt(hall.floor, at[0] - at[2], at[1] - (1 - at[2]));
  }

  private void addWindow() {
    int room = room();
    int[] at = place(room);
    compare("addWindow(" + room + ", " + at[0] + ", " + at[1] + ", " + (at[2] == 1) + ", " + at[3] + ")",
        () -> plan.addWindow(room, at[0], at[1], at[2] == 1, at[3]),
        () -> slow.addWindow(room, at[0], at[1], at[2] == 1, at[3]));
  }

  private void addStairs() {
    int lower = room();
    SlowPlan.Hall hall = slow.halls.get(lower);
    int x = hall == null ? 3 : (int) hall.x + number(0, (int) hall.w);
    int y = hall == null ? 3 : (int) hall.y + number(0, (int) hall.h);
    int above = hall == null || hall.floor == 2 ? -1 : slow.roomAt(hall.floor + 1, x, y);
    if (above < 0 && random.nextInt(4) > 0) {
      return;
    }
    int upper = isSeldom() || above < 0 ? room() : above;
    compare("addStairs(" + lower + ", " + upper + ", " + x + ", " + y + ")",
        () -> plan.addStairs(lower, upper, x, y), () -> slow.addStairs(lower, upper, x, y));
  }

  private void change() {
    int kind = random.nextInt(40);
    if (kind < 9) {
      addRoom();
    } else if (kind < 22) {
      addDoor();
    } else if (kind < 26) {
      addWindow();
    } else if (kind < 31) {
      addStairs();
    } else if (kind < 35) {
      people(room(), number(0, random.nextBoolean() ? 20 : 200));
    } else if (kind == 35) {
      int rule = number(0, 9);
      int limit = random.nextBoolean() ? number(0, 6) : number(0, 999);
      compare("setLimit(" + rule + ", " + limit + ")",
          () -> plan.setLimit(rule, limit), () -> slow.setLimit(rule, limit));
    } else if (kind == 36 && random.nextInt(4) == 0) {
      int room = room();
      compare("removeRoom(" + room + ")", () -> plan.removeRoom(room), () -> slow.removeRoom(room));
    } else if (kind == 37) {
      int door = door();
      compare("removeDoor(" + door + ")", () -> plan.removeDoor(door), () -> slow.removeDoor(door));
    } else {
      int door = door();
      boolean isShut = random.nextInt(3) == 0;
      compare("shut(" + door + ", " + isShut + ")",
          () -> bit(plan.shut(door, isShut)), () -> bit(slow.shut(door, isShut)));
    }
  }

  private void people(int room, int people) {
    compare("setPeople(" + room + ", " + people + ")",
        () -> plan.setPeople(room, people), () -> slow.setPeople(room, people));
  }

  private void ask() {
    int kind = random.nextInt(4);
    if (kind == 0) {
      askOfRoom(random.nextInt(8), room());
    } else if (kind == 1) {
      askOfDoor(random.nextInt(6), door());
    } else if (kind == 2) {
      askOfFault(random.nextInt(5), number(0, 12));
    } else {
      askOfAll(random.nextInt(8));
    }
  }

  private void askOfRoom(int kind, int room) {
    String behind = "(" + room + ")";
    int other = random.nextInt(3) == 0 ? lastRoom : room();
    int tick = random.nextInt(4) == 0 ? number(0, 999) : number(0, 9);
    lastRoom = room;
    switch (kind) {
      case 0 -> compare("isLost" + behind, () -> bit(plan.isLost(room)), () -> bit(slow.isLost(room)));
      case 1 -> compare("farWay" + behind, () -> plan.farWay(room), () -> slow.farWay(room));
      case 2 -> compare("leaving" + behind, () -> plan.leaving(room), () -> slow.leaving(room));
      case 3 -> compare("middleWay" + behind, () -> plan.middleWay(room), () -> slow.middleWay(room));
      case 4 -> compare("depth" + behind, () -> plan.depth(room), () -> slow.depth(room));
      case 5 -> compare("mostPeople" + behind, () -> plan.mostPeople(room), () -> slow.mostPeople(room));
      case 6 -> compare("areJoined(" + room + ", " + other + ")",
          () -> bit(plan.areJoined(room, other)), () -> bit(slow.areJoined(room, other)));
      default -> compare("inRoom(" + room + ", " + tick + ")",
          () -> plan.inRoom(room, tick), () -> slow.inRoom(room, tick));
    }
  }

  private void askOfDoor(int kind, int door) {
    String behind = "(" + door + ")";
    int wide = number(1, 6);
    int stairs = number(0, Math.max(1, slow.stairsEver));
    boolean isBack = random.nextBoolean();
    switch (kind) {
      case 0 -> compare("way(" + door + ", " + isBack + ")",
          () -> plan.way(door, isBack), () -> slow.way(door, isBack));
      case 1 -> compare("load" + behind, () -> plan.load(door), () -> slow.load(door));
      case 2 -> compare("faultsWith" + behind, () -> plan.faultsWith(door), () -> slow.faultsWith(door));
      case 3 -> compare("lostWithout" + behind, () -> plan.lostWithout(door), () -> slow.lostWithout(door));
      case 4 -> compare("timeWith(" + door + ", " + wide + ")",
          () -> plan.timeWith(door, wide), () -> slow.timeWith(door, wide));
      default -> compare("stairsLoad(" + stairs + ")",
          () -> plan.stairsLoad(stairs), () -> slow.stairsLoad(stairs));
    }
  }

  private void askOfFault(int kind, int fault) {
    String behind = "(" + fault + ")";
    int rule = number(0, 9);
    switch (kind) {
      case 0 -> compare("ruleOf" + behind, () -> plan.ruleOf(fault), () -> slow.partOf(fault, 0));
      case 1 -> compare("whereOf" + behind, () -> plan.whereOf(fault), () -> slow.partOf(fault, 1));
      case 2 -> compare("howMuch" + behind, () -> plan.howMuch(fault), () -> slow.partOf(fault, 2));
      case 3 -> compare("broken(" + rule + ")", () -> plan.broken(rule), () -> slow.broken(rule));
      default -> compare("faults()", plan::faults, slow::faults);
    }
  }

  private void askOfAll(int kind) {
    int tick = random.nextInt(4) == 0 ? number(0, 999) : number(0, 9);
    int floor = number(0, 2);
    int x = number(0, 25);
    int y = number(0, 25);
    switch (kind) {
      case 0 -> compare("rooms()", plan::rooms, slow::rooms);
      case 1 -> compare("doors()", plan::doors, slow::doors);
      case 2 -> compare("stairs()", plan::stairs, slow::stairs);
      case 3 -> compare("timeOut()", plan::timeOut, slow::timeOut);
      case 4 -> compare("left(" + tick + ")", () -> plan.left(tick), () -> slow.left(tick));
      case 5 -> compare("meanWay()", () -> Double.doubleToLongBits(plan.meanWay()),
          () -> Double.doubleToLongBits(slow.meanWay()));
      case 6 -> compare("digest()", plan::digest, slow::digest);
      default -> compare("roomAt(" + floor + ", " + x + ", " + y + ")",
          () -> plan.roomAt(floor, x, y), () -> slow.roomAt(floor, x, y));
    }
  }
}
