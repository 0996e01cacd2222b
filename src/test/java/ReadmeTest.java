/** The example of README.md: each answer that it tells. */
public final class ReadmeTest {
  public static void main(String[] args) {
    ClerestoryPlan plan = new ClerestoryPlan();
    int hall = plan.addRoom(0, 0, 0, 10, 8, 1);
    int flat = plan.addRoom(1, 0, 0, 10, 8, 0);
    int out = plan.addDoor(hall, -1, 0, 3, true, 2);
    int stairs = plan.addStairs(hall, flat, 8, 4);
    plan.setPeople(hall, 30);
    plan.setPeople(flat, 5);
    Due.is("2: hall", hall, 0);
    Due.is("2: flat", flat, 1);
    Due.is("5: out", out, 0);
    Due.is("7: stairs", stairs, 0);
    Due.is("19: middleWay(hall)", plan.middleWay(hall), 10);
    Due.is("17: farWay(hall)", plan.farWay(hall), 28);
    Due.is("18: leaving(hall)", plan.leaving(hall), 0);
    Due.is("18: leaving(flat)", plan.leaving(flat), 100);
    Due.is("19: middleWay(flat)", plan.middleWay(flat), 42);
    Due.is("24: timeOut()", plan.timeOut(), 9);
    Due.is("34: lostWithout(out)", plan.lostWithout(out), 35);
    Due.is("27: faults()", plan.faults(), 3);
    Due.faults("a HALL with too many PEOPLE for its size", plan, 3, 0, 40);
    Due.faults("a DOOR with too great a LOAD", plan, 2, 0, 19);
    Due.faults("a DWELLING without WINDOWS", plan, 4, 1, 8);
    plan.shut(out, true);
    Due.is("18: leaving(flat), SHUT", plan.leaving(flat), -1);
    Due.noSuch("16: isLost(2)", plan, () -> plan.isLost(2));
    Due.end();
  }
}
