/**
 * A checker of plans for buildings: rooms on three floors, doors, windows and stairs, the ways out of
 * them, the time that all need for these, and the rules that a plan breaks. Lengths are in halves.
 */
public final class ClerestoryPlan {
  private static final int FLOORS = 3;
  private static final int MOST_ROOMS = 20;
  private static final int MOST_DOORS = 40;
  private static final int MOST_WINDOWS = 40;
  private static final int MOST_STAIRS = 10;
  private static final int MOST_EXITS = MOST_DOORS + MOST_STAIRS;
  private static final int MOST_PEOPLE = 200;
  private static final int GREATEST_PLACE = 60;
  private static final int GREATEST_SIZE = 30;
  private static final int GREATEST_WIDE = 6;
  private static final int GREATEST_LIMIT = 999;
  private static final int GREATEST_TICK = 999;

  private static final int DWELLING = 0;
  private static final int WET_USE = 3;
  private static final int USES = 4;

  private static final int LOST = 0;
  private static final int FAR = 1;
  private static final int CROWDED = 2;
  private static final int TIGHT = 3;
  private static final int DARK = 4;
  private static final int SPAN = 5;
  private static final int ONE_WAY = 6;
  private static final int DEEP = 7;
  private static final int STEEP = 8;
  private static final int WET = 9;
  private static final int[] FIRST_LIMITS = {0, 120, 8, 4, 10, 12, 50, 3, 60, 0};
  /** Eight of the rules are about rooms, one about doors, one about stairs. */
  private static final int MOST_FAULTS = 8 * MOST_ROOMS + MOST_DOORS + MOST_STAIRS;

  private static final int NONE = -1;
  private static final int OUT = -1;
  private static final int STAIRS_LENGTH = 20;
  private static final int STAIRS_FLOW = 3;
  private static final int FLOW_OF_WIDE = 2;
  private static final int STAIRS_ANSWER = 100;
  /** Far above the 4000 people that a plan can hold: two at least, or the last one, go on in each tick. */
  private static final int MOST_TICKS = 1000000;

  private final Plan plan = new Plan();
  private final Ways ways = new Ways();
  private final Crowd crowd = new Crowd();
  private final FaultList faultList = new FaultList();
  /** Whether ways and faultList tell of the plan as it is now. */
  private boolean isReckoned = false;

  public ClerestoryPlan() {
  }

  // ---- rooms, doors, windows, stairs

  public int addRoom(int floor, int x, int y, int w, int h, int use)
      throws IllegalArgumentException, IllegalStateException {
    if (!isWithin(floor, 0, FLOORS - 1) || !isWithin(use, 0, USES - 1)
        || !isWithin(x, 0, GREATEST_PLACE) || !isWithin(y, 0, GREATEST_PLACE)
        || !isWithin(w, 1, GREATEST_SIZE) || !isWithin(h, 1, GREATEST_SIZE)) {
      throw new IllegalArgumentException("no such floor, place, size or use");
    }
    int number = plan.roomsEver;
    if (number >= MOST_ROOMS) {
      throw new IllegalStateException("all rooms were laid");
    }
    Room room = new Room(number, floor, x, y, w, h, use);
    if (plan.isInTheWay(room)) {
      throw new IllegalStateException("another room is there");
    }
    plan.rooms[number] = room;
    plan.roomsEver = number + 1;
    isReckoned = false;
    return number;
  }

  public int removeRoom(int room) throws IndexOutOfBoundsException {
    Room gone = roomThere(room);
    plan.rooms[gone.number] = null;
    isReckoned = false;
    return plan.dropAllOf(gone);
  }

  public int setPeople(int room, int people) throws IndexOutOfBoundsException, IllegalArgumentException {
    Room its = roomThere(room);
    if (!isWithin(people, 0, MOST_PEOPLE)) {
      throw new IllegalArgumentException("people are 0 to 200");
    }
    int before = its.people;
    its.people = people;
    isReckoned = false;
    return before;
  }

  public int addDoor(int room, int to, int x, int y, boolean isUp, int wide)
      throws IndexOutOfBoundsException, IllegalArgumentException, IllegalStateException {
    Room from = roomThere(room);
    Room other = to == OUT ? null : roomThere(to);
    if (!isWithin(wide, 1, GREATEST_WIDE) || !canBeJoined(from, other)) {
      throw new IllegalArgumentException("no such width, or no door between these");
    }
    int number = plan.doorsEver;
    if (number >= MOST_DOORS) {
      throw new IllegalStateException("all doors were put in");
    }
    Piece piece = new Piece(from.floor, x, y, isUp, wide);
    if (!plan.hasPlaceFor(piece, from, other)) {
      throw new IllegalStateException("a door cannot be there");
    }
    plan.doors[number] = new Door(from, other, piece);
    plan.doorsEver = number + 1;
    isReckoned = false;
    return number;
  }

  public int addWindow(int room, int x, int y, boolean isUp, int wide)
      throws IndexOutOfBoundsException, IllegalArgumentException, IllegalStateException {
    Room its = roomThere(room);
    if (!isWithin(wide, 1, GREATEST_WIDE)) {
      throw new IllegalArgumentException("a window is 1 to 6 wide");
    }
    int number = plan.windowsEver;
    if (number >= MOST_WINDOWS) {
      throw new IllegalStateException("all windows were put in");
    }
    Piece piece = new Piece(its.floor, x, y, isUp, wide);
    if (!plan.hasPlaceFor(piece, its, null)) {
      throw new IllegalStateException("a window cannot be there");
    }
    plan.windows[number] = new Window(its, piece);
    plan.windowsEver = number + 1;
    isReckoned = false;
    return plan.windowsWide(its);
  }

  public int addStairs(int lower, int upper, int x, int y)
      throws IndexOutOfBoundsException, IllegalArgumentException, IllegalStateException {
    Room below = roomThere(lower);
    Room above = roomThere(upper);
    if (above.floor != below.floor + 1 || !below.hasPoint(x, y) || !above.hasPoint(x, y)) {
      throw new IllegalArgumentException("not one floor above, or the point is not in both");
    }
    int number = plan.stairsEver;
    if (number >= MOST_STAIRS) {
      throw new IllegalStateException("all stairs were put in");
    }
    plan.stairs[number] = new Stairs(below, above, x, y);
    plan.stairsEver = number + 1;
    isReckoned = false;
    return number;
  }

  public boolean shut(int door, boolean isShut) throws IndexOutOfBoundsException {
    Door its = doorThere(door);
    boolean before = its.isShut;
    its.isShut = isShut;
    isReckoned = false;
    return before;
  }

  public int removeDoor(int door) throws IndexOutOfBoundsException {
    doorThere(door);
    plan.doors[door] = null;
    isReckoned = false;
    return plan.countExits(0, MOST_DOORS);
  }

  public int setLimit(int rule, int limit) throws IndexOutOfBoundsException, IllegalArgumentException {
    if (!isWithin(rule, 0, plan.limits.length - 1)) {
      throw new IndexOutOfBoundsException("no such rule");
    }
    if (!isWithin(limit, 0, GREATEST_LIMIT)) {
      throw new IllegalArgumentException("a limit is 0 to 999");
    }
    int before = plan.limits[rule];
    plan.limits[rule] = limit;
    isReckoned = false;
    return before;
  }

  public int rooms() {
    int count = 0;
    for (Room room : plan.rooms) {
      if (room != null) {
        count++;
      }
    }
    return count;
  }

  public int doors() {
    return plan.countExits(0, MOST_DOORS);
  }

  public int stairs() {
    return plan.countExits(MOST_DOORS, MOST_EXITS);
  }

  public int roomAt(int floor, int x, int y) throws IllegalArgumentException {
    if (!isWithin(floor, 0, FLOORS - 1)) {
      throw new IllegalArgumentException("no such floor");
    }
    for (Room room : plan.rooms) {
      if (room != null && room.floor == floor && room.hasUnit(x, y)) {
        return room.number;
      }
    }
    return NONE;
  }

  public boolean areJoined(int one, int other) throws IndexOutOfBoundsException {
    Room first = roomThere(one);
    Room second = roomThere(other);
    for (Door door : plan.doors) {
      if (door != null && door.isBetween(first, second)) {
        return true;
      }
    }
    return false;
  }

  // ---- ways

  public boolean isLost(int room) throws IndexOutOfBoundsException {
    Room its = roomThere(room);
    reckon();
    return ways.leavings[its.number] == NONE;
  }

  public int farWay(int room) throws IndexOutOfBoundsException {
    Room its = roomThere(room);
    reckon();
    return ways.farWays[its.number];
  }

  public int leaving(int room) throws IndexOutOfBoundsException {
    Room its = roomThere(room);
    reckon();
    return leavingOf(its.number);
  }

  public int middleWay(int room) throws IndexOutOfBoundsException {
    Room its = roomThere(room);
    reckon();
    return ways.middleWays[its.number];
  }

  public int depth(int room) throws IndexOutOfBoundsException {
    Room its = roomThere(room);
    reckon();
    return ways.depths[its.number];
  }

  public int way(int door, boolean isBack) throws IndexOutOfBoundsException {
    doorThere(door);
    reckon();
    return isBack ? ways.waysBack[door] : ways.waysThere[door];
  }

  public int load(int door) throws IndexOutOfBoundsException {
    doorThere(door);
    reckon();
    return ways.loads[door];
  }

  public int stairsLoad(int stairs) throws IndexOutOfBoundsException {
    if (!isWithin(stairs, 0, MOST_STAIRS - 1) || plan.stairs[stairs] == null) {
      throw new IndexOutOfBoundsException("no such stairs");
    }
    reckon();
    return ways.loads[MOST_DOORS + stairs];
  }

  // ---- time

  public int timeOut() {
    reckon();
    return crowd.ticksTillOut(plan, ways);
  }

  public int left(int tick) throws IllegalArgumentException {
    checkTick(tick);
    reckon();
    crowd.goOn(plan, ways, tick);
    return crowd.countInside();
  }

  public int inRoom(int room, int tick) throws IndexOutOfBoundsException, IllegalArgumentException {
    Room its = roomThere(room);
    checkTick(tick);
    reckon();
    crowd.goOn(plan, ways, tick);
    return crowd.inside[its.number];
  }

  // ---- faults

  public int faults() {
    reckon();
    return faultList.count;
  }

  public int ruleOf(int fault) throws IndexOutOfBoundsException {
    reckon();
    checkFault(fault);
    return faultList.rules[fault];
  }

  public int whereOf(int fault) throws IndexOutOfBoundsException {
    reckon();
    checkFault(fault);
    return faultList.places[fault];
  }

  public int howMuch(int fault) throws IndexOutOfBoundsException {
    reckon();
    checkFault(fault);
    return faultList.amounts[fault];
  }

  public int broken(int rule) throws IndexOutOfBoundsException {
    if (!isWithin(rule, 0, plan.limits.length - 1)) {
      throw new IndexOutOfBoundsException("no such rule");
    }
    reckon();
    return faultList.countOf(rule);
  }

  public double meanWay() {
    reckon();
    int people = 0;
    int sum = 0;
    for (Room room : plan.rooms) {
      if (room != null && ways.leavings[room.number] != NONE) {
        people += room.people;
        sum += room.people * ways.middleWays[room.number];
      }
    }
    return people == 0 ? 0.0 : (double) sum / (double) people;
  }

  // ---- what would be (nothing is changed)

  public int faultsWith(int door) throws IndexOutOfBoundsException {
    Door its = doorThere(door);
    turn(its);
    reckon();
    int answer = faultList.count;
    turn(its);
    return answer;
  }

  public int lostWithout(int door) throws IndexOutOfBoundsException {
    Door its = doorThere(door);
    if (its.isShut) {
      return 0;
    }
    reckon();
    int before = ways.countStuck(plan);
    turn(its);
    reckon();
    int after = ways.countStuck(plan);
    turn(its);
    return after - before;
  }

  public int timeWith(int door, int wide) throws IndexOutOfBoundsException, IllegalArgumentException {
    Door its = doorThere(door);
    if (!isWithin(wide, 1, GREATEST_WIDE)) {
      throw new IllegalArgumentException("a door is 1 to 6 wide");
    }
    reckon();
    int before = its.flow;
    its.flow = wide * FLOW_OF_WIDE;
    int answer = crowd.ticksTillOut(plan, ways);
    its.flow = before;
    return answer;
  }

  public int mostPeople(int room) throws IndexOutOfBoundsException {
    return mostIn(roomThere(room));
  }

  public long digest() {
    reckon();
    long d = 2663;
    d = mix(d, rooms());
    d = mix(d, doors());
    d = mix(d, stairs());
    d = mix(d, crowd.ticksTillOut(plan, ways));
    crowd.goOn(plan, ways, 3);
    d = mix(d, crowd.countInside());
    d = mixRooms(d);
    d = mixExits(d);
    return mixFaults(d);
  }

  private long mixRooms(long start) {
    long d = start;
    crowd.goOn(plan, ways, 2);
    for (int i = 0; i < MOST_ROOMS; i++) {
      if (plan.rooms[i] != null) {
        d = mix(d, i);
        d = mix(d, ways.leavings[i] == NONE ? 1 : 0);
        d = mix(d, ways.farWays[i]);
        d = mix(d, leavingOf(i));
        d = mix(d, ways.middleWays[i]);
        d = mix(d, ways.depths[i]);
        d = mix(d, crowd.inside[i]);
        d = mix(d, mostIn(plan.rooms[i]));
      }
    }
    return d;
  }

  private long mixExits(long start) {
    long d = start;
    for (int i = 0; i < MOST_DOORS; i++) {
      if (plan.doors[i] != null) {
        d = mix(d, i);
        d = mix(d, ways.waysThere[i]);
        d = mix(d, ways.waysBack[i]);
        d = mix(d, ways.loads[i]);
      }
    }
    for (int i = 0; i < MOST_STAIRS; i++) {
      if (plan.stairs[i] != null) {
        d = mix(d, i);
        d = mix(d, ways.loads[MOST_DOORS + i]);
      }
    }
    return d;
  }

  private long mixFaults(long start) {
    long d = mix(start, faultList.count);
    for (int i = 0; i < faultList.count; i++) {
      d = mix(d, faultList.rules[i]);
      d = mix(d, faultList.places[i]);
      d = mix(d, faultList.amounts[i]);
    }
    return d;
  }

  private static long mix(long d, long v) {
    return d * 31 + v;
  }

  private static boolean isWithin(int value, int least, int greatest) {
    return value >= least && value <= greatest;
  }

  private static boolean canBeJoined(Room from, Room other) {
    if (other == null) {
      return from.floor == 0;
    }
    return other != from && other.floor == from.floor;
  }

  private int leavingOf(int number) {
    int exit = ways.leavings[number];
    return exit < MOST_DOORS ? exit : exit - MOST_DOORS + STAIRS_ANSWER;
  }

  private int mostIn(Room room) {
    int most = MOST_PEOPLE;
    int perHead = plan.limits[TIGHT];
    if (perHead > 0) {
      most = Math.min(most, room.w * room.h / perHead);
    }
    return plan.countOpen(room) <= 1 ? Math.min(most, plan.limits[ONE_WAY]) : most;
  }

  private Room roomThere(int room) {
    Room its = isWithin(room, 0, MOST_ROOMS - 1) ? plan.rooms[room] : null;
    if (its == null) {
      throw new IndexOutOfBoundsException("no such room");
    }
    return its;
  }

  private Door doorThere(int door) {
    Door its = isWithin(door, 0, MOST_DOORS - 1) ? plan.doors[door] : null;
    if (its == null) {
      throw new IndexOutOfBoundsException("no such door");
    }
    return its;
  }

  private static void checkTick(int tick) {
    if (!isWithin(tick, 0, GREATEST_TICK)) {
      throw new IllegalArgumentException("a tick is 0 to 999");
    }
  }

  private void checkFault(int fault) {
    if (!isWithin(fault, 0, faultList.count - 1)) {
      throw new IndexOutOfBoundsException("no such fault");
    }
  }

  private void turn(Door door) {
    door.isShut = !door.isShut;
    isReckoned = false;
  }

  /** Kept till the plan changes, as one who asks goes through many answers. */
  private void reckon() {
    if (isReckoned) {
      return;
    }
    ways.reckonExits(plan);
    for (int i = 0; i < MOST_ROOMS; i++) {
      ways.reckonRoom(plan, i);
    }
    ways.reckonDepths(plan);
    ways.reckonLoads(plan);
    faultList.count = 0;
    for (int rule = 0; rule < plan.limits.length; rule++) {
      faultList.tellRule(plan, ways, rule);
    }
    isReckoned = true;
  }

  private static final class Room {
    final int number;
    final int floor;
    final int x;
    final int y;
    final int w;
    final int h;
    final int use;
    int people;

    Room(int number, int floor, int x, int y, int w, int h, int use) {
      this.number = number;
      this.floor = floor;
      this.x = x;
      this.y = y;
      this.w = w;
      this.h = h;
      this.use = use;
    }

    int lowest(boolean ofX) {
      return ofX ? x : y;
    }

    int highest(boolean ofX) {
      return ofX ? x + w : y + h;
    }

    boolean hasUnit(int unitX, int unitY) {
      return unitX >= x && unitX < x + w && unitY >= y && unitY < y + h;
    }

    boolean hasPoint(int pointX, int pointY) {
      return pointX >= x && pointX <= x + w && pointY >= y && pointY <= y + h;
    }

    /** How many units lie in both, whatever their floors. */
    int unitsInCommon(Room other) {
      int across = Math.min(x + w, other.x + other.w) - Math.max(x, other.x);
      int upwards = Math.min(y + h, other.y + other.h) - Math.max(y, other.y);
      return across > 0 && upwards > 0 ? across * upwards : 0;
    }
  }

  /** A straight piece of the walls of a floor: on the line at x (or at y, if it lies), from its start on. */
  private static final class Piece {
    final int floor;
    final boolean isUp;
    final int line;
    final int start;
    final int wide;

    Piece(int floor, int x, int y, boolean isUp, int wide) {
      this.floor = floor;
      this.isUp = isUp;
      this.line = isUp ? x : y;
      this.start = isUp ? y : x;
      this.wide = wide;
    }

    boolean isOnLineOf(Room room) {
      return room.floor == floor && (line == room.lowest(isUp) || line == room.highest(isUp));
    }

    /** Its end is never added up here, as the start may be any number. */
    boolean isOnSideOf(Room room) {
      return isOnLineOf(room) && start >= room.lowest(!isUp) && start <= room.highest(!isUp) - wide;
    }

    boolean touchesSideOf(Room room) {
      return isOnLineOf(room) && start < room.highest(!isUp) && start + wide > room.lowest(!isUp);
    }

    boolean sharesWith(Piece other) {
      return floor == other.floor && isUp == other.isUp && line == other.line
          && start < other.start + other.wide && other.start < start + wide;
    }

    int middleX() {
      return isUp ? 2 * line : 2 * start + wide;
    }

    int middleY() {
      return isUp ? 2 * start + wide : 2 * line;
    }
  }

  private static final class Window {
    final Room room;
    final Piece piece;

    Window(Room room, Piece piece) {
      this.room = room;
      this.piece = piece;
    }
  }

  /** What one goes through; leads to null, if OUT. */
  private abstract static class Exit {
    final Room from;
    final Room to;
    final int middleX;
    final int middleY;
    final int length;
    /** How many come through in a tick. */
    int flow;
    boolean isShut;

    Exit(Room from, Room to, int middleX, int middleY, int length, int flow) {
      this.from = from;
      this.to = to;
      this.middleX = middleX;
      this.middleY = middleY;
      this.length = length;
      this.flow = flow;
    }

    boolean isOf(Room room) {
      return from == room || to == room;
    }

    Room otherThan(Room room) {
      return from == room ? to : from;
    }

    int distanceTo(int x, int y) {
      return Math.abs(middleX - x) + Math.abs(middleY - y);
    }
  }

  private static final class Door extends Exit {
    final Piece piece;

    Door(Room from, Room to, Piece piece) {
      super(from, to, piece.middleX(), piece.middleY(), 0, piece.wide * FLOW_OF_WIDE);
      this.piece = piece;
    }

    boolean isBetween(Room one, Room other) {
      return from == one && to == other || from == other && to == one;
    }
  }

  private static final class Stairs extends Exit {
    Stairs(Room lower, Room upper, int x, int y) {
      super(lower, upper, 2 * x, 2 * y, STAIRS_LENGTH, STAIRS_FLOW);
    }
  }

  /** What stands in the plan, by its numbers; null is what never was put in or is GONE. */
  private static final class Plan {
    final Room[] rooms = new Room[MOST_ROOMS];
    final Door[] doors = new Door[MOST_DOORS];
    final Window[] windows = new Window[MOST_WINDOWS];
    final Stairs[] stairs = new Stairs[MOST_STAIRS];
    final int[] limits = FIRST_LIMITS.clone();
    int roomsEver;
    int doorsEver;
    int windowsEver;
    int stairsEver;

    /** All exits in the order in which they are preferred: the DOORS, then the STAIRS. */
    Exit exitAt(int index) {
      if (index < 0 || index >= MOST_EXITS) {
        return null;
      }
      if (index < MOST_DOORS) {
        return doors[index];
      }
      return stairs[index - MOST_DOORS];
    }

    int countExits(int first, int end) {
      int count = 0;
      for (int i = first; i < end; i++) {
        if (exitAt(i) != null) {
          count++;
        }
      }
      return count;
    }

    int countOpen(Room room) {
      int count = 0;
      for (int i = 0; i < MOST_EXITS; i++) {
        Exit exit = exitAt(i);
        if (exit != null && !exit.isShut && exit.isOf(room)) {
          count++;
        }
      }
      return count;
    }

    int windowsWide(Room room) {
      int wide = 0;
      for (Window window : windows) {
        if (window != null && window.room == room) {
          wide += window.piece.wide;
        }
      }
      return wide;
    }

    int unitsAboveDwellings(Room room) {
      int units = 0;
      for (Room below : rooms) {
        if (below != null && below.use == DWELLING && below.floor == room.floor - 1) {
          units += room.unitsInCommon(below);
        }
      }
      return units;
    }

    boolean isInTheWay(Room room) {
      for (Room other : rooms) {
        if (other != null && other.floor == room.floor && other.unitsInCommon(room) > 0) {
          return true;
        }
      }
      return false;
    }

    /** Its own sides are looked at first: whatever lies on them has small numbers. */
    boolean hasPlaceFor(Piece piece, Room room, Room other) {
      if (!piece.isOnSideOf(room)) {
        return false;
      }
      boolean isAtOther = other == null ? !touchesOthers(piece, room) : piece.isOnSideOf(other);
      return isAtOther && isFree(piece);
    }

    boolean touchesOthers(Piece piece, Room own) {
      for (Room room : rooms) {
        if (room != null && room != own && piece.touchesSideOf(room)) {
          return true;
        }
      }
      return false;
    }

    boolean isFree(Piece piece) {
      for (Door door : doors) {
        if (door != null && door.piece.sharesWith(piece)) {
          return false;
        }
      }
      for (Window window : windows) {
        if (window != null && window.piece.sharesWith(piece)) {
          return false;
        }
      }
      return true;
    }

    /** Answers how many are GONE by that. */
    int dropAllOf(Room room) {
      int count = 0;
      for (int i = 0; i < MOST_DOORS; i++) {
        if (doors[i] != null && doors[i].isOf(room)) {
          doors[i] = null;
          count++;
        }
      }
      for (int i = 0; i < MOST_WINDOWS; i++) {
        if (windows[i] != null && windows[i].room == room) {
          windows[i] = null;
          count++;
        }
      }
      for (int i = 0; i < MOST_STAIRS; i++) {
        if (stairs[i] != null && stairs[i].isOf(room)) {
          stairs[i] = null;
          count++;
        }
      }
      return count;
    }
  }

  /** How one comes out: of each exit by its index, of each room by its number; NONE where one does not. */
  private static final class Ways {
    final int[] waysThere = new int[MOST_EXITS];
    final int[] waysBack = new int[MOST_EXITS];
    final int[] loads = new int[MOST_EXITS];
    final int[] leavings = new int[MOST_ROOMS];
    final int[] middleWays = new int[MOST_ROOMS];
    final int[] farWays = new int[MOST_ROOMS];
    final int[] depths = new int[MOST_ROOMS];

    /** A least way comes through each exit at most once there and once back, so there are no more rounds. */
    void reckonExits(Plan plan) {
      for (int i = 0; i < MOST_EXITS; i++) {
        waysThere[i] = NONE;
        waysBack[i] = NONE;
      }
      boolean isBetter = true;
      for (int round = 0; isBetter && round <= 2 * MOST_EXITS; round++) {
        isBetter = false;
        for (int i = 0; i < MOST_EXITS; i++) {
          Exit exit = plan.exitAt(i);
          if (exit != null && !exit.isShut && shorten(plan, i, exit)) {
            isBetter = true;
          }
        }
      }
    }

    boolean shorten(Plan plan, int index, Exit exit) {
      int there = exit.to == null ? 0 : wayOn(plan, index, exit, exit.to);
      int back = exit.to == null ? NONE : wayOn(plan, index, exit, exit.from);
      boolean isBetter = isLess(there, waysThere[index]) || isLess(back, waysBack[index]);
      waysThere[index] = there;
      waysBack[index] = back;
      return isBetter;
    }

    /** Through this exit into that room, and on through another exit. */
    int wayOn(Plan plan, int index, Exit exit, Room into) {
      int least = NONE;
      for (int i = 0; i < MOST_EXITS; i++) {
        Exit next = plan.exitAt(i);
        if (next == null || i == index) {
          continue;
        }
        int rest = wayFrom(i, next, into);
        if (rest != NONE) {
          int whole = exit.length + next.distanceTo(exit.middleX, exit.middleY) + rest;
          least = isLess(whole, least) ? whole : least;
        }
      }
      return least;
    }

    int wayFrom(int index, Exit exit, Room room) {
      if (exit.from == room) {
        return waysThere[index];
      }
      return exit.to == room ? waysBack[index] : NONE;
    }

    static boolean isLess(int way, int least) {
      return way != NONE && (least == NONE || way < least);
    }

    void reckonRoom(Plan plan, int number) {
      Room room = plan.rooms[number];
      leavings[number] = NONE;
      middleWays[number] = NONE;
      farWays[number] = NONE;
      if (room == null) {
        return;
      }
      int middleX = 2 * room.x + room.w;
      int middleY = 2 * room.y + room.h;
      leavings[number] = bestExit(plan, room, middleX, middleY);
      middleWays[number] = wayBy(plan, room, leavings[number], middleX, middleY);
      for (int corner = 0; corner < 4; corner++) {
        int x = 2 * (corner % 2 == 0 ? room.x : room.x + room.w);
        int y = 2 * (corner / 2 == 0 ? room.y : room.y + room.h);
        int way = wayBy(plan, room, bestExit(plan, room, x, y), x, y);
        farWays[number] = Math.max(farWays[number], way);
      }
    }

    /** The exit by which it is the least OUT from a point of the room; the first of several. */
    int bestExit(Plan plan, Room room, int x, int y) {
      int best = NONE;
      int least = NONE;
      for (int i = 0; i < MOST_EXITS; i++) {
        int way = wayBy(plan, room, i, x, y);
        if (isLess(way, least)) {
          best = i;
          least = way;
        }
      }
      return best;
    }

    int wayBy(Plan plan, Room room, int index, int x, int y) {
      Exit exit = plan.exitAt(index);
      int rest = exit == null ? NONE : wayFrom(index, exit, room);
      return rest == NONE ? NONE : exit.distanceTo(x, y) + rest;
    }

    void reckonDepths(Plan plan) {
      for (int i = 0; i < MOST_ROOMS; i++) {
        depths[i] = depthOf(plan, plan.rooms[i]);
      }
    }

    /** Who has come through as many exits as there are rooms and is not OUT goes in a ring. */
    int depthOf(Plan plan, Room room) {
      Room at = room;
      for (int depth = 0; depth <= MOST_ROOMS; depth++) {
        if (at == null) {
          return depth == 0 ? NONE : depth;
        }
        Exit exit = plan.exitAt(leavings[at.number]);
        if (exit == null) {
          return NONE;
        }
        at = exit.otherThan(at);
      }
      return NONE;
    }

    void reckonLoads(Plan plan) {
      for (int i = 0; i < MOST_EXITS; i++) {
        loads[i] = 0;
      }
      for (Room room : plan.rooms) {
        if (room != null) {
          addLoadOf(plan, room);
        }
      }
    }

    void addLoadOf(Plan plan, Room room) {
      Room at = room;
      for (int i = 0; at != null && i < depths[room.number]; i++) {
        int index = leavings[at.number];
        Exit exit = plan.exitAt(index);
        if (exit == null) {
          return;
        }
        loads[index] += room.people;
        at = exit.otherThan(at);
      }
    }

    int countStuck(Plan plan) {
      int people = 0;
      for (Room room : plan.rooms) {
        if (room != null && depths[room.number] == NONE) {
          people += room.people;
        }
      }
      return people;
    }
  }

  /** Where all are, tick by tick. */
  private static final class Crowd {
    final int[] inside = new int[MOST_ROOMS];
    final int[] going = new int[MOST_ROOMS];

    void gather(Plan plan) {
      for (int i = 0; i < MOST_ROOMS; i++) {
        Room room = plan.rooms[i];
        inside[i] = room == null ? 0 : room.people;
      }
    }

    void goOn(Plan plan, Ways ways, int ticks) {
      gather(plan);
      for (int i = 0; i < ticks && isAnyToGo(ways); i++) {
        doTick(plan, ways);
      }
    }

    int ticksTillOut(Plan plan, Ways ways) {
      gather(plan);
      int ticks = 0;
      while (ticks < MOST_TICKS && isAnyToGo(ways)) {
        doTick(plan, ways);
        ticks++;
      }
      return ticks;
    }

    boolean isAnyToGo(Ways ways) {
      for (int i = 0; i < MOST_ROOMS; i++) {
        if (ways.depths[i] != NONE && inside[i] > 0) {
          return true;
        }
      }
      return false;
    }

    /** First it is fixed how many go, as who comes in a tick does not go on in it. */
    void doTick(Plan plan, Ways ways) {
      for (int i = 0; i < MOST_ROOMS; i++) {
        Exit exit = exitToGo(plan, ways, i);
        going[i] = exit == null ? 0 : Math.min(inside[i], exit.flow);
      }
      for (int i = 0; i < MOST_ROOMS; i++) {
        Exit exit = exitToGo(plan, ways, i);
        Room next = exit == null ? null : exit.otherThan(plan.rooms[i]);
        inside[i] -= going[i];
        if (next != null) {
          inside[next.number] += going[i];
        }
      }
    }

    static Exit exitToGo(Plan plan, Ways ways, int room) {
      return ways.depths[room] == NONE ? null : plan.exitAt(ways.leavings[room]);
    }

    int countInside() {
      int people = 0;
      for (int i = 0; i < MOST_ROOMS; i++) {
        people += inside[i];
      }
      return people;
    }
  }

  /** The faults in their order: by rules, then by the numbers of what breaks them. */
  private static final class FaultList {
    final int[] rules = new int[MOST_FAULTS];
    final int[] places = new int[MOST_FAULTS];
    final int[] amounts = new int[MOST_FAULTS];
    int count;

    void tellRule(Plan plan, Ways ways, int rule) {
      int most = rule == CROWDED ? MOST_DOORS : rule == STEEP ? MOST_STAIRS : MOST_ROOMS;
      for (int i = 0; i < most; i++) {
        if (rule == CROWDED) {
          tell(rule, i, excessOfDoor(plan, ways, i));
        } else if (rule == STEEP) {
          tell(rule, i, ways.loads[MOST_DOORS + i] - plan.limits[rule]);
        } else {
          tell(rule, i, excessOfRoom(plan, ways, rule, i));
        }
      }
    }

    void tell(int rule, int place, int amount) {
      if (amount > 0 && count < MOST_FAULTS) {
        rules[count] = rule;
        places[count] = place;
        amounts[count] = amount;
        count++;
      }
    }

    static int excessOfDoor(Plan plan, Ways ways, int number) {
      Door door = plan.doors[number];
      return door == null ? 0 : ways.loads[number] - plan.limits[CROWDED] * door.piece.wide;
    }

    /** By how much a room breaks a rule; it keeps it, if that is not above 0 (NONE is below any limit). */
    static int excessOfRoom(Plan plan, Ways ways, int rule, int number) {
      Room room = plan.rooms[number];
      if (room == null) {
        return 0;
      }
      int limit = plan.limits[rule];
      int units = room.w * room.h;
      switch (rule) {
        case LOST:
          return ways.depths[number] == NONE ? room.people - limit : 0;
        case FAR:
          return ways.farWays[number] - limit;
        case TIGHT:
          return room.people * limit - units;
        case DARK:
          return room.use == DWELLING ? units * limit / 100 - plan.windowsWide(room) : 0;
        case SPAN:
          return Math.min(room.w, room.h) - limit;
        case ONE_WAY:
          return plan.countOpen(room) <= 1 ? room.people - limit : 0;
        case DEEP:
          return ways.depths[number] - limit;
        case WET:
          return room.use == WET_USE ? plan.unitsAboveDwellings(room) - limit : 0;
        default:
          return 0;
      }
    }

    int countOf(int rule) {
      int broken = 0;
      for (int i = 0; i < count; i++) {
        if (rules[i] == rule) {
          broken++;
        }
      }
      return broken;
    }
  }
}
