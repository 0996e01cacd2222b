import java.util.ArrayList;
import java.util.HashMap;
import java.util.HashSet;
import java.util.List;
import java.util.Map;
import java.util.PriorityQueue;
import java.util.Set;
import java.util.TreeMap;

/**
 * The document once more, built another way and without regard to cost, to compare the class with:
 * insides are sets of unit squares, walls sets of unit pieces, ways are searched from each exit
 * forwards, and the people go one by one.
 */
final class SlowPlan {
  static final int[] LIMITS = {0, 120, 8, 4, 10, 12, 50, 3, 60, 0};

  static final class Hall {
    int id;
    int floor;
    int use;
    int people;
    long x;
    long y;
    long w;
    long h;
    Set<String> inside = new HashSet<>();
    Set<String> walls = new HashSet<>();
  }

  static final class Gate {
    String name;
    int id;
    boolean isStairs;
    Hall from;
    Hall to;
    Set<String> units = new HashSet<>();
    long middleX;
    long middleY;
    int wide;
    boolean isShut;
  }

  /** One who goes through a gate, and from which of its halls. */
  record Step(Gate gate, Hall from, long far) {
    Hall into() {
      return gate.from == from ? gate.to : gate.from;
    }
  }

  final Map<Integer, Hall> halls = new TreeMap<>();
  final Map<Integer, Gate> doors = new TreeMap<>();
  final Map<Integer, Gate> windows = new TreeMap<>();
  final Map<Integer, Gate> stairs = new TreeMap<>();
  final int[] limits = LIMITS.clone();
  int hallsEver;
  int doorsEver;
  int windowsEver;
  int stairsEver;

  static RuntimeException noSuch() {
    return new IndexOutOfBoundsException();
  }

  static RuntimeException badArgument() {
    return new IllegalArgumentException();
  }

  static RuntimeException badState() {
    return new IllegalStateException();
  }

  // ---- rooms, doors, windows, stairs

  int addRoom(int floor, int x, int y, int w, int h, int use) {
    if (floor < 0 || floor > 2 || x < 0 || x > 60 || y < 0 || y > 60 || w < 1 || w > 30 || h < 1 || h > 30
        || use < 0 || use > 3) {
      throw badArgument();
    }
    Hall hall = new Hall();
    hall.id = hallsEver;
    hall.floor = floor;
    hall.use = use;
    hall.x = x;
    hall.y = y;
    hall.w = w;
    hall.h = h;
    for (int i = x; i < x + w; i++) {
      for (int j = y; j < y + h; j++) {
        hall.inside.add(i + "," + j);
      }
    }
    hall.walls.addAll(units(floor, x, y, true, h));
    hall.walls.addAll(units(floor, x + w, y, true, h));
    hall.walls.addAll(units(floor, x, y, false, w));
    hall.walls.addAll(units(floor, x, y + h, false, w));
    if (hallsEver == 20) {
      throw badState();
    }
    for (Hall other : halls.values()) {
      if (other.floor == floor && common(other.inside, hall.inside) > 0) {
        throw badState();
      }
    }
    halls.put(hallsEver, hall);
    return hallsEver++;
  }

  static Set<String> units(int floor, long x, long y, boolean isUp, int wide) {
    Set<String> units = new HashSet<>();
    for (int i = 0; i < wide; i++) {
      units.add(isUp ? floor + "|" + x + "," + (y + i) : floor + "-" + (x + i) + "," + y);
    }
    return units;
  }

  static int common(Set<String> one, Set<String> other) {
    Set<String> both = new HashSet<>(one);
    both.retainAll(other);
    return both.size();
  }

  Hall hall(int room) {
    if (!halls.containsKey(room)) {
      throw noSuch();
    }
    return halls.get(room);
  }

  Gate door(int door) {
    if (!doors.containsKey(door)) {
      throw noSuch();
    }
    return doors.get(door);
  }

  int removeRoom(int room) {
    Hall gone = hall(room);
    halls.remove(room);
    int before = doors.size() + windows.size() + stairs.size();
    for (Map<Integer, Gate> map : List.of(doors, windows, stairs)) {
      map.values().removeIf(gate -> gate.from == gone || gate.to == gone);
    }
    return before - doors.size() - windows.size() - stairs.size();
  }

  int setPeople(int room, int people) {
    int before = hall(room).people;
    if (people < 0 || people > 200) {
      throw badArgument();
    }
    hall(room).people = people;
    return before;
  }

  Gate gate(String name, int id, Hall from, Hall to, int x, int y, boolean isUp, int wide) {
    Gate gate = new Gate();
    gate.name = name;
    gate.id = id;
    gate.from = from;
    gate.to = to;
    gate.wide = wide;
    gate.units = units(from.floor, x, y, isUp, wide);
    gate.middleX = 2L * x + (isUp ? 0 : wide);
    gate.middleY = 2L * y + (isUp ? wide : 0);
    return gate;
  }

  void checkPlace(Gate gate) {
    if (!gate.from.walls.containsAll(gate.units)) {
      throw badState();
    }
    if (gate.to != null && !gate.to.walls.containsAll(gate.units)) {
      throw badState();
    }
    for (Hall other : halls.values()) {
      if (gate.to == null && other != gate.from && common(other.walls, gate.units) > 0) {
        throw badState();
      }
    }
    for (Map<Integer, Gate> map : List.of(doors, windows)) {
      for (Gate other : map.values()) {
        if (common(other.units, gate.units) > 0) {
          throw badState();
        }
      }
    }
  }

  int addDoor(int room, int to, int x, int y, boolean isUp, int wide) {
    Hall from = hall(room);
    Hall other = to == -1 ? null : hall(to);
    if (wide < 1 || wide > 6 || room == to) {
      throw badArgument();
    }
    if (other != null && other.floor != from.floor || other == null && from.floor != 0) {
      throw badArgument();
    }
    Gate gate = gate("door", doorsEver, from, other, x, y, isUp, wide);
    checkPlace(gate);
    if (doorsEver == 40) {
      throw badState();
    }
    doors.put(doorsEver, gate);
    return doorsEver++;
  }

  int addWindow(int room, int x, int y, boolean isUp, int wide) {
    Hall from = hall(room);
    if (wide < 1 || wide > 6) {
      throw badArgument();
    }
    Gate gate = gate("window", windowsEver, from, null, x, y, isUp, wide);
    checkPlace(gate);
    if (windowsEver == 40) {
      throw badState();
    }
    windows.put(windowsEver++, gate);
    return windowsWide(from);
  }

  int windowsWide(Hall hall) {
    return windows.values().stream().filter(window -> window.from == hall).mapToInt(w -> w.wide).sum();
  }

  int addStairs(int lower, int upper, int x, int y) {
    Hall below = hall(lower);
    Hall above = hall(upper);
    if (above.floor - below.floor != 1) {
      throw badArgument();
    }
    for (Hall hall : List.of(below, above)) {
      if (x < hall.x || x > hall.x + hall.w || y < hall.y || y > hall.y + hall.h) {
        throw badArgument();
      }
    }
    if (stairsEver == 10) {
      throw badState();
    }
    Gate gate = new Gate();
    gate.name = "stairs";
    gate.id = stairsEver;
    gate.isStairs = true;
    gate.from = below;
    gate.to = above;
    gate.middleX = 2L * x;
    gate.middleY = 2L * y;
    stairs.put(stairsEver, gate);
    return stairsEver++;
  }

  boolean shut(int door, boolean isShut) {
    boolean before = door(door).isShut;
    door(door).isShut = isShut;
    return before;
  }

  int removeDoor(int door) {
    door(door);
    doors.remove(door);
    return doors.size();
  }

  int setLimit(int rule, int limit) {
    if (rule < 0 || rule > 9) {
      throw noSuch();
    }
    if (limit < 0 || limit > 999) {
      throw badArgument();
    }
    int before = limits[rule];
    limits[rule] = limit;
    return before;
  }

  int rooms() {
    return halls.size();
  }

  int doors() {
    return doors.size();
  }

  int stairs() {
    return stairs.size();
  }

  int roomAt(int floor, int x, int y) {
    if (floor < 0 || floor > 2) {
      throw badArgument();
    }
    for (Hall hall : halls.values()) {
      if (hall.floor == floor && hall.inside.contains(x + "," + y)) {
        return hall.id;
      }
    }
    return -1;
  }

  boolean areJoined(int one, int other) {
    Set<Hall> both = new HashSet<>(List.of(hall(one)));
    both.add(hall(other));
    for (Gate door : doors.values()) {
      if (door.to != null && both.equals(Set.of(door.from, door.to))) {
        return true;
      }
    }
    return false;
  }

  // ---- ways

  /** Those that one can go through, the doors ahead of the stairs. */
  List<Gate> openGates(Hall hall) {
    List<Gate> gates = new ArrayList<>();
    for (Map<Integer, Gate> map : List.of(doors, stairs)) {
      for (Gate gate : map.values()) {
        if (!gate.isShut && (gate.from == hall || gate.to == hall)) {
          gates.add(gate);
        }
      }
    }
    return gates;
  }

  /** Searched forwards, always on from the step that is the nearest, till one is out. */
  long wayThrough(Gate gate, Hall from) {
    PriorityQueue<Step> queue = new PriorityQueue<>((a, b) -> Long.compare(a.far, b.far));
    Map<Gate, Set<Hall>> seen = new HashMap<>();
    queue.add(new Step(gate, from, 0));
    while (!queue.isEmpty()) {
      Step step = queue.poll();
      if (!seen.computeIfAbsent(step.gate, any -> new HashSet<>()).add(step.from)) {
        continue;
      }
      Hall into = step.into();
      if (into == null) {
        return step.far;
      }
      for (Gate next : openGates(into)) {
        if (next != step.gate) {
          long distance = distance(next, step.gate.middleX, step.gate.middleY);
          queue.add(new Step(next, into, step.far + (step.gate.isStairs ? 20 : 0) + distance));
        }
      }
    }
    return -1;
  }

  static long distance(Gate gate, long x, long y) {
    return Math.abs(gate.middleX - x) + Math.abs(gate.middleY - y);
  }

  Gate best(Hall hall, long x, long y) {
    Gate best = null;
    for (Gate gate : openGates(hall)) {
      if (wayThrough(gate, hall) >= 0 && (best == null || far(gate, hall, x, y) < far(best, hall, x, y))) {
        best = gate;
      }
    }
    return best;
  }

  long far(Gate gate, Hall hall, long x, long y) {
    return gate == null ? -1 : distance(gate, x, y) + wayThrough(gate, hall);
  }

  Gate leavingOf(Hall hall) {
    return best(hall, 2 * hall.x + hall.w, 2 * hall.y + hall.h);
  }

  boolean isLost(int room) {
    return leavingOf(hall(room)) == null;
  }

  long farWay(int room) {
    Hall hall = hall(room);
    long far = -1;
    for (long x : new long[] {2 * hall.x, 2 * (hall.x + hall.w)}) {
      for (long y : new long[] {2 * hall.y, 2 * (hall.y + hall.h)}) {
        far = Math.max(far, far(best(hall, x, y), hall, x, y));
      }
    }
    return far;
  }

  int leaving(int room) {
    Gate gate = leavingOf(hall(room));
    return gate == null ? -1 : gate.isStairs ? 100 + gate.id : gate.id;
  }

  long middleWay(int room) {
    Hall hall = hall(room);
    return far(leavingOf(hall), hall, 2 * hall.x + hall.w, 2 * hall.y + hall.h);
  }

  /** All that the people of a hall go through; null, if they do not come out. */
  List<Gate> path(Hall hall) {
    List<Gate> path = new ArrayList<>();
    Set<Hall> seen = new HashSet<>();
    Hall at = hall;
    while (at != null) {
      Gate gate = leavingOf(at);
      if (gate == null || !seen.add(at)) {
        return null;
      }
      path.add(gate);
      at = gate.from == at ? gate.to : gate.from;
    }
    return path;
  }

  int depth(int room) {
    List<Gate> path = path(hall(room));
    return path == null ? -1 : path.size();
  }

  long way(int door, boolean isBack) {
    Gate gate = door(door);
    Hall from = isBack ? gate.to : gate.from;
    return gate.isShut || from == null ? -1 : wayThrough(gate, from);
  }

  int loadOf(Gate gate) {
    int load = 0;
    for (Hall hall : halls.values()) {
      List<Gate> path = path(hall);
      load += path != null && path.contains(gate) ? hall.people : 0;
    }
    return load;
  }

  int load(int door) {
    return loadOf(door(door));
  }

  int stairsLoad(int number) {
    if (!stairs.containsKey(number)) {
      throw noSuch();
    }
    return loadOf(stairs.get(number));
  }

  // ---- time

  /** One by one: in which hall each is, null being out; those of each hall in any order. */
  List<Hall> crowd() {
    List<Hall> crowd = new ArrayList<>();
    for (Hall hall : halls.values()) {
      for (int i = 0; i < hall.people; i++) {
        crowd.add(hall);
      }
    }
    return crowd;
  }

  Map<Hall, Gate> leavings() {
    Map<Hall, Gate> leavings = new HashMap<>();
    for (Hall hall : halls.values()) {
      if (path(hall) != null) {
        leavings.put(hall, leavingOf(hall));
      }
    }
    return leavings;
  }

  static void tick(List<Hall> crowd, Map<Hall, Gate> leavings) {
    Map<Hall, Integer> gone = new HashMap<>();
    for (int i = 0; i < crowd.size(); i++) {
      Hall at = crowd.get(i);
      Gate gate = leavings.get(at);
      if (gate != null && gone.merge(at, 1, Integer::sum) <= (gate.isStairs ? 3 : 2 * gate.wide)) {
        crowd.set(i, gate.from == at ? gate.to : gate.from);
      }
    }
  }

  int timeOut() {
    List<Hall> crowd = crowd();
    Map<Hall, Gate> leavings = leavings();
    int ticks = 0;
    while (crowd.stream().anyMatch(leavings::containsKey)) {
      tick(crowd, leavings);
      ticks++;
    }
    return ticks;
  }

  List<Hall> crowdAfter(int ticks) {
    List<Hall> crowd = crowd();
    Map<Hall, Gate> leavings = leavings();
    for (int i = 0; i < ticks; i++) {
      tick(crowd, leavings);
    }
    return crowd;
  }

  int left(int tick) {
    if (tick < 0 || tick > 999) {
      throw badArgument();
    }
    return (int) crowdAfter(tick).stream().filter(hall -> hall != null).count();
  }

  int inRoom(int room, int tick) {
    Hall its = hall(room);
    if (tick < 0 || tick > 999) {
      throw badArgument();
    }
    return (int) crowdAfter(tick).stream().filter(hall -> hall == its).count();
  }

  // ---- faults

  /** Each fault as its rule, where and how much. */
  List<long[]> faultList() {
    List<long[]> faults = new ArrayList<>();
    for (int rule = 0; rule <= 9; rule++) {
      List<long[]> all = new ArrayList<>();
      if (rule == 2) {
        doors.forEach((id, door) -> all.add(new long[] {2, id, loadOf(door) - limits[2] * door.wide}));
      } else if (rule == 8) {
        stairs.forEach((id, gate) -> all.add(new long[] {8, id, loadOf(gate) - limits[8]}));
      } else {
        for (Hall hall : halls.values()) {
          all.add(new long[] {rule, hall.id, over(rule, limits[rule], hall)});
        }
      }
      all.stream().filter(fault -> fault[2] > 0).forEach(faults::add);
    }
    return faults;
  }

  long over(int rule, int limit, Hall hall) {
    if (rule == 0) {
      return path(hall) == null && hall.people > limit ? hall.people - limit : 0;
    } else if (rule == 1) {
      return isLost(hall.id) ? 0 : farWay(hall.id) - limit;
    } else if (rule == 3) {
      return hall.people == 0 ? 0 : limit * hall.people - hall.w * hall.h;
    } else if (rule == 4) {
      return hall.use != 0 ? 0 : hall.w * hall.h * limit / 100 - windowsWide(hall);
    } else if (rule == 5) {
      return Math.min(hall.w, hall.h) - limit;
    } else if (rule == 6) {
      return openGates(hall).size() > 1 ? 0 : hall.people - limit;
    } else if (rule == 7) {
      return path(hall) == null ? 0 : path(hall).size() - limit;
    }
    Set<String> below = new HashSet<>();
    for (Hall other : halls.values()) {
      if (other.use == 0 && other.floor == hall.floor - 1) {
        below.addAll(other.inside);
      }
    }
    return hall.use != 3 ? 0 : common(hall.inside, below) - limit;
  }

  int faults() {
    return faultList().size();
  }

  long partOf(int fault, int part) {
    List<long[]> faults = faultList();
    if (fault < 0 || fault >= faults.size()) {
      throw noSuch();
    }
    return faults.get(fault)[part];
  }

  int broken(int rule) {
    if (rule < 0 || rule > 9) {
      throw noSuch();
    }
    return (int) faultList().stream().filter(fault -> fault[0] == rule).count();
  }

  double meanWay() {
    double sum = 0;
    double people = 0;
    for (Hall hall : halls.values()) {
      for (int i = 0; i < hall.people && leavingOf(hall) != null; i++) {
        people++;
        sum += middleWay(hall.id);
      }
    }
    return people == 0 ? 0 : sum / people;
  }

  // ---- what would be

  int faultsWith(int door) {
    Gate gate = door(door);
    gate.isShut = !gate.isShut;
    int faults = faults();
    gate.isShut = !gate.isShut;
    return faults;
  }

  int stuck() {
    return halls.values().stream().filter(hall -> path(hall) == null).mapToInt(hall -> hall.people).sum();
  }

  int lostWithout(int door) {
    Gate gate = door(door);
    int before = stuck();
    boolean wasShut = gate.isShut;
    gate.isShut = true;
    int after = stuck();
    gate.isShut = wasShut;
    return after - before;
  }

  int timeWith(int door, int wide) {
    Gate gate = door(door);
    if (wide < 1 || wide > 6) {
      throw badArgument();
    }
    int before = gate.wide;
    gate.wide = wide;
    int time = timeOut();
    gate.wide = before;
    return time;
  }

  int mostPeople(int room) {
    Hall hall = hall(room);
    int before = hall.people;
    int most = 0;
    for (int people = 0; people <= 200; people++) {
      hall.people = people;
      if (over(3, limits[3], hall) <= 0 && over(6, limits[6], hall) <= 0) {
        most = people;
      }
    }
    hall.people = before;
    return most;
  }

  long digest() {
    List<Long> all = new ArrayList<>();
    for (int value : new int[] {rooms(), doors(), stairs(), timeOut(), left(3)}) {
      all.add((long) value);
    }
    for (int room : halls.keySet()) {
      all.addAll(List.of((long) room, isLost(room) ? 1L : 0L, farWay(room), (long) leaving(room),
          middleWay(room), (long) depth(room), (long) inRoom(room, 2), (long) mostPeople(room)));
    }
    for (int door : doors.keySet()) {
      all.addAll(List.of((long) door, way(door, false), way(door, true), (long) load(door)));
    }
    for (int number : stairs.keySet()) {
      all.addAll(List.of((long) number, (long) stairsLoad(number)));
    }
    all.add((long) faults());
    for (long[] fault : faultList()) {
      all.addAll(List.of(fault[0], fault[1], fault[2]));
    }
    long d = 2663;
    for (long value : all) {
      d = d * 31 + value;
    }
    return d;
  }
}
