import java.math.BigInteger;
import java.util.ArrayList;
import java.util.List;

/** The bounds that promises 33 to 37 name: what would be, and the checksum. */
public final class BoundsWouldBeTest {
  public static void main(String[] args) {
    faultsWithOneShut();
    faultsWithOneOpened();
    faultsWithTheLastDoor();
    lostWithoutOne();
    lostWithoutAShutOne();
    fewerLost();
    lostOfNobody();
    timeWithEachWidth();
    timeWithWrongWidths();
    timeWhateverThereIsRoomFor();
    timeWithoutALoad();
    mostPeopleIsTheMost();
    mostPeopleAtTheEnds();
    mostPeopleOfEachRoom();
    noSuchDoorOrRoom();
    digestOfNothing();
    digestWrapsAround();
    Due.end();
  }

  /** Promise 33; "if it was SHUT". */
  private static void faultsWithOneShut() {
    ClerestoryPlan plan = Plans.row(3);
    Due.is("33: nobody, so none", plan.faultsWith(0), 0);
    plan.setPeople(0, 1);
    plan.setPeople(2, 1);
    Due.is("27: none", plan.faults(), 0);
    Due.is("33: two rooms would be LOST", plan.faultsWith(0), 2);
    Due.is("33: the last one alone", plan.faultsWith(2), 1);
    Due.is("33: asked again", plan.faultsWith(0), 2);
    Due.is("27: as before", plan.faults(), 0);
    Due.is("8: it is not SHUT", plan.shut(0, false), false);
  }

  /** Promise 33; "(or opened, if it is)". */
  private static void faultsWithOneOpened() {
    ClerestoryPlan plan = Plans.row(3);
    plan.setPeople(0, 1);
    plan.setPeople(2, 1);
    plan.shut(0, true);
    Due.is("27: both are LOST", plan.faults(), 2);
    Due.is("33: none would be", plan.faultsWith(0), 0);
    plan.shut(2, true);
    Due.is("33: one would be, all the same", plan.faultsWith(0), 1);
    Due.is("33: both would be, all the same", plan.faultsWith(2), 2);
    Due.is("8: it is SHUT still", plan.shut(0, false), true);
    Due.is("8: the other one, too", plan.shut(2, false), true);
  }

  private static void faultsWithTheLastDoor() {
    ClerestoryPlan plan = Plans.hall(10, 10, 1);
    for (int next = 1; next <= 38; next++) {
      plan.addDoor(0, -1, 0, 0, true, 1);
      plan.removeDoor(next);
    }
    plan.removeDoor(0);
    plan.setPeople(0, 8);
    Due.is("5: the last one", plan.addDoor(0, -1, 0, 0, true, 1), 39);
    Due.is("33: one would be LOST", plan.faultsWith(39), 1);
    Due.is("34: eight more", plan.lostWithout(39), 8);
    Due.is("35: one in a tick less", plan.timeWith(39, 2), 2);
  }

  /** Promise 34; "how many PEOPLE more would be in LOST ROOMS or TRAPS, if it was SHUT". */
  private static void lostWithoutOne() {
    ClerestoryPlan plan = Plans.row(20);
    for (int room = 0; room < 20; room++) {
      plan.setPeople(room, 200);
    }
    for (int door = 0; door < 20; door++) {
      Due.is("34: door " + door, plan.lostWithout(door), 200 * (20 - door));
    }
    plan.addDoor(19, -1, 60, 1, true, 1);
    Due.is("34: there is another way then", plan.lostWithout(5), 0);
    Due.is("34: nobody is lost without this", plan.lostWithout(20), 0);
    Due.is("24: nothing is changed", plan.timeOut(), 1000);
  }

  /** Promise 34; "0 if it is". */
  private static void lostWithoutAShutOne() {
    ClerestoryPlan plan = Plans.row(2);
    plan.setPeople(0, 3);
    plan.setPeople(1, 4);
    plan.shut(0, true);
    Due.is("34: it is SHUT", plan.lostWithout(0), 0);
    Due.is("34: all are LOST already", plan.lostWithout(1), 0);
    Due.is("8: SHUT still", plan.shut(0, false), true);
    Due.is("34: opened", plan.lostWithout(0), 7);
    Due.is("34: the other one", plan.lostWithout(1), 4);
  }

  /** Promise 34; "(below 0, if they would be fewer)": without door 2, or 3, there is no TRAP any more. */
  private static void fewerLost() {
    ClerestoryPlan plan = Plans.trap();
    plan.setPeople(0, 200);
    plan.setPeople(1, 199);
    Due.is("34: without door 2", plan.lostWithout(2), -399);
    Due.is("34: without door 3", plan.lostWithout(3), -399);
    Due.is("34: without door 0", plan.lostWithout(0), -399);
    plan.shut(3, true);
    Due.is("34: without both", plan.lostWithout(2), 399);
    Due.is("25: nothing is changed", plan.left(0), 399);
  }

  private static void lostOfNobody() {
    ClerestoryPlan plan = Plans.row(2);
    Due.is("34: nobody is there", plan.lostWithout(0), 0);
    plan.setPeople(1, 1);
    Due.is("34: one", plan.lostWithout(0), 1);
  }

  /** Promise 35; WIDE 1 to 6, what it is as well. */
  private static void timeWithEachWidth() {
    for (int is = 1; is <= 6; is++) {
      ClerestoryPlan plan = Plans.hall(10, 10, is);
      plan.setPeople(0, 61);
      for (int wide = 1; wide <= 6; wide++) {
        Due.is("35: " + wide + " instead of " + is, plan.timeWith(0, wide), (61 + 2 * wide - 1) / (2 * wide));
      }
      Due.is("35: as it is", plan.timeWith(0, is), plan.timeOut());
      Due.is("24: nothing is changed", plan.timeOut(), (61 + 2 * is - 1) / (2 * is));
    }
  }

  private static void timeWithWrongWidths() {
    ClerestoryPlan plan = Plans.hall(10, 10, 3);
    plan.setPeople(0, 61);
    for (int wrong : new int[] {0, 7, -1, Integer.MIN_VALUE, Integer.MAX_VALUE}) {
      Due.badArgument("35: wide " + wrong, plan, () -> plan.timeWith(0, wrong));
      Due.noSuch("35: no door, wide " + wrong, plan, () -> plan.timeWith(1, wrong));
    }
    plan.shut(0, true);
    Due.badArgument("35: SHUT, wide 7", plan, () -> plan.timeWith(0, 7));
    Due.is("24: nobody comes out", plan.timeOut(), 0);
  }

  /** Promise 35; "(whatever there is room for; its middle point stays where it is)". */
  private static void timeWhateverThereIsRoomFor() {
    ClerestoryPlan small = Plans.hall(1, 1, 1);
    small.setPeople(0, 24);
    Due.is("35: on a side of 1", small.timeWith(0, 6), 2);
    ClerestoryPlan tight = new ClerestoryPlan();
    tight.addRoom(0, 0, 0, 3, 3, 1);
    tight.addDoor(0, -1, 0, 0, false, 1);
    tight.addDoor(0, -1, 1, 0, false, 1);
    tight.addWindow(0, 2, 0, false, 1);
    tight.setPeople(0, 24);
    Due.is("18: from (3, 3) to (3, 0)", tight.leaving(0), 1);
    Due.is("35: between a door and a window", tight.timeWith(1, 6), 2);
    Due.is("35: through the other one nobody goes", tight.timeWith(0, 6), 12);
  }

  private static void timeWithoutALoad() {
    ClerestoryPlan plan = Plans.pair();
    Due.is("35: nobody", plan.timeWith(1, 6), 0);
    plan.setPeople(1, 20);
    Due.is("35: nobody goes there", plan.timeWith(0, 1), 10);
    plan.setPeople(0, 20);
    plan.shut(0, true);
    Due.is("35: SHUT, it stays so", plan.timeWith(0, 6), 10);
    ClerestoryPlan trap = Plans.trap();
    trap.setPeople(0, 50);
    Due.is("35: in a TRAP", trap.timeWith(0, 6), 0);
  }

  /** Promise 36: with so many it is not at fault by 3 and 6, with one more it is, if that is not more than 200. */
  private static void mostPeopleIsTheMost() {
    int[] limits = {0, 1, 2, 3, 4, 7, 50, 199, 200, 999};
    for (int tight : limits) {
      ClerestoryPlan plan = Plans.hall(10, 15, 1);
      plan.setLimit(3, tight);
      for (int oneWay : limits) {
        plan.setLimit(6, oneWay);
        plan.setPeople(0, 13);
        int most = plan.mostPeople(0);
        String what = "36: limits " + tight + ", " + oneWay;
        plan.setPeople(0, most);
        Due.is(what + ", so many", plan.broken(3) + plan.broken(6), 0);
        if (most < 200) {
          plan.setPeople(0, most + 1);
          Due.is(what + ", one more", plan.broken(3) + plan.broken(6) > 0, true);
        } else {
          Due.is(what + ", 200 at most", most, 200);
        }
      }
    }
  }

  private static void mostPeopleAtTheEnds() {
    ClerestoryPlan plan = Plans.hall(30, 30, 1);
    plan.addDoor(0, -1, 5, 0, false, 1);
    Due.is("36: 900 / 4 is more than 200", plan.mostPeople(0), 200);
    plan.setLimit(3, 5);
    Due.is("36: 900 / 5", plan.mostPeople(0), 180);
    plan.setLimit(3, 0);
    Due.is("36: rule 3 wants nothing", plan.mostPeople(0), 200);
    plan.setLimit(3, 999);
    Due.is("36: 900 / 999", plan.mostPeople(0), 0);
    plan.setLimit(3, 900);
    Due.is("36: 900 / 900", plan.mostPeople(0), 1);
    plan.setLimit(3, 0);
    plan.shut(1, true);
    Due.is("36: one way", plan.mostPeople(0), 50);
    plan.shut(0, true);
    Due.is("36: no way", plan.mostPeople(0), 50);
    plan.setLimit(6, 0);
    Due.is("36: nobody by one way", plan.mostPeople(0), 0);
    plan.setLimit(6, 201);
    Due.is("36: 200 at most by one way", plan.mostPeople(0), 200);
    plan.setLimit(6, 199);
    Due.is("36: 199 by one way", plan.mostPeople(0), 199);
    plan.shut(0, false);
    plan.shut(1, false);
    plan.setLimit(6, 0);
    Due.is("36: two ways", plan.mostPeople(0), 200);
    Due.is("4: its PEOPLE stay", plan.setPeople(0, 0), 0);
  }

  private static void mostPeopleOfEachRoom() {
    ClerestoryPlan plan = Plans.row(20);
    plan.setLimit(6, 1);
    for (int room = 0; room < 20; room++) {
      Due.is("36: room " + room, plan.mostPeople(room), room < 19 ? 2 : 1);
    }
  }

  /** Promises 33 to 36; "if there is no such DOOR, or it is GONE", "... no such ROOM, or it is GONE". */
  private static void noSuchDoorOrRoom() {
    ClerestoryPlan plan = Plans.row(20);
    plan.removeRoom(19);
    plan.removeDoor(4);
    for (int wrong : new int[] {-1, 4, 19, 20, 39, 40, Integer.MIN_VALUE, Integer.MAX_VALUE}) {
      Due.noSuch("33: door " + wrong, plan, () -> plan.faultsWith(wrong));
      Due.noSuch("34: door " + wrong, plan, () -> plan.lostWithout(wrong));
      Due.noSuch("35: door " + wrong, plan, () -> plan.timeWith(wrong, 1));
    }
    for (int wrong : new int[] {-1, 19, 20, Integer.MIN_VALUE, Integer.MAX_VALUE}) {
      Due.noSuch("36: room " + wrong, plan, () -> plan.mostPeople(wrong));
    }
  }

  /** Promise 37; "A number d starts with 2663", then 0 six times. */
  private static void digestOfNothing() {
    long d = 2663L * 31 * 31 * 31 * 31 * 31 * 31;
    Due.is("37: a new plan", new ClerestoryPlan().digest(), d);
    ClerestoryPlan gone = Plans.pair();
    for (int room = 0; room < 3; room++) {
      gone.removeRoom(room);
    }
    Due.is("37: all is GONE", gone.digest(), d);
  }

  /** Promise 37; "which wraps around as a 64-bit integer": reckoned with numbers of any length. */
  private static void digestWrapsAround() {
    ClerestoryPlan plan = Plans.row(2);
    plan.setPeople(1, 11);
    plan.shut(0, true);
    List<Integer> all = new ArrayList<>(List.of(2, 2, 0, 0, 11));
    all.addAll(List.of(0, 1, -1, -1, -1, -1, 0, 2));
    all.addAll(List.of(1, 1, -1, -1, -1, -1, 11, 2));
    all.addAll(List.of(0, -1, -1, 0));
    all.addAll(List.of(1, -1, -1, 0));
    all.addAll(List.of(2, 0, 1, 11, 3, 1, 35));
    BigInteger d = BigInteger.valueOf(2663);
    for (int value : all) {
      d = d.multiply(BigInteger.valueOf(31)).add(BigInteger.valueOf(value));
    }
    Due.is("37: more than 64 bits", d.bitLength() > 64, true);
    Due.is("37: the last 64 of them", plan.digest(), d.longValue());
  }
}
