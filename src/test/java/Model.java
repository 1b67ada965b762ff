import java.util.ArrayList;
import java.util.Arrays;
import java.util.List;
import java.util.function.Consumer;
import java.util.function.IntPredicate;
import java.util.regex.Matcher;
import java.util.regex.Pattern;

/**
 * The document once more, written another way: kinds as a tree of classes, trials on fresh copies,
 * texts cut by a pattern. ModelTest holds the program against it.
 */
final class Model {
  static class Person {
    int door;
    int wants;
    int hope = 50;
    int stood;
    boolean away;

    int hears(int loud) {
      return loud;
    }

    int trusts() {
      return 20;
    }

    int loses() {
      return 8;
    }

    int mends() {
      return 2;
    }

    boolean tempted(int good) {
      return hope >= 80;
    }

    Person as(int kind) {
      Person p = make(kind);
      p.door = door;
      p.wants = wants;
      p.hope = hope;
      p.stood = stood;
      p.away = away;
      return p;
    }
  }

  static class Maid extends Person {
    @Override int hears(int loud) {
      return super.hears(loud) + 2;
    }

    @Override int trusts() {
      return super.trusts() - 10;
    }

    @Override int loses() {
      return super.loses() - 3;
    }

    @Override int mends() {
      return super.mends() + 1;
    }
  }

  static class Boy extends Person {
    @Override int hears(int loud) {
      return 2 * super.hears(loud);
    }

    @Override int loses() {
      return 2 * super.loses();
    }

    @Override boolean tempted(int good) {
      return (good & 1) == 0;
    }
  }

  static class Deaf extends Person {
    @Override int hears(int loud) {
      return 0;
    }

    @Override int loses() {
      return super.loses() + Integer.bitCount(wants);
    }

    @Override int mends() {
      return 0;
    }

    @Override boolean tempted(int good) {
      return false;
    }
  }

  static class Cook extends Maid {
    @Override int hears(int loud) {
      return super.hears(loud) / 2;
    }

    @Override int trusts() {
      return super.trusts() + 30;
    }

    @Override boolean tempted(int good) {
      return false;
    }
  }

  static class Widow extends Cook {
    @Override int hears(int loud) {
      return hope < 50 ? super.hears(loud) : super.hears(loud) + 1;
    }

    @Override int trusts() {
      return 0;
    }

    @Override int loses() {
      return 1;
    }

    @Override int mends() {
      return 2 * super.mends();
    }

    @Override boolean tempted(int good) {
      return wants == 0;
    }
  }

  static class Lad extends Boy {
    @Override int hears(int loud) {
      return 15;
    }

    @Override int trusts() {
      return stood < 10 ? super.trusts() : super.trusts() + 40;
    }

    @Override int loses() {
      return super.loses() - 6;
    }

    @Override int mends() {
      return super.mends() + 3;
    }

    @Override boolean tempted(int good) {
      return super.tempted(good) || good == 11;
    }
  }

  static final String[] WORDS = {"resident", "maid", "boy", "cook", "widow", "deaf", "lad"};

  static final List<Class<?>> CLASSES = List.of(Person.class, Maid.class, Boy.class, Cook.class,
      Widow.class, Deaf.class, Lad.class);

  static Person make(int kind) {
    switch (kind) {
      case 0: return new Person();
      case 1: return new Maid();
      case 2: return new Boy();
      case 3: return new Cook();
      case 4: return new Widow();
      case 5: return new Deaf();
      default: return new Lad();
    }
  }

  /** What an image keeps. */
  static final class World {
    int[] crier = {0, 2, 4};
    int[] list = {0, 1, 2, 3, 4, 5};
    int[] register = new int[12];
    int gold;
    int day;
    int z = 1;
    List<Person> people = new ArrayList<>();
    int[] spots = new int[10];

    World() {
      Arrays.fill(spots, -1);
    }

    World twin() {
      World w = new World();
      w.crier = crier.clone();
      w.list = list.clone();
      w.register = register.clone();
      w.gold = gold;
      w.day = day;
      w.z = z;
      for (Person p : people) {
        w.people.add(p.as(CLASSES.indexOf(p.getClass())));
      }
      w.spots = spots.clone();
      return w;
    }

    boolean hears(Person p) {
      return Math.abs(p.door - crier[0]) <= p.hears(crier[2]);
    }

    boolean comes(Person p, int good) {
      return !p.away && hears(p) && (p.wants & 1 << good) != 0 && p.hope >= p.trusts();
    }

    int fetches() {
      int goods = (int) Arrays.stream(register).filter(v -> v > 0).count();
      return Arrays.stream(register).max().getAsInt() + 5 * goods;
    }

    void dayGoesBy() {
      crier[0] = (crier[0] + crier[1]) % 16;
      int good = list[day % 6];
      for (Person p : people) {
        if (p.away) {
          continue;
        }
        if (comes(p, good)) {
          int less = p.loses();
          p.stood = Math.min(9999, p.stood + 1);
          register[good] = Math.min(999, register[good] + 1);
          p.hope = Math.max(0, p.hope - less);
        } else {
          if (hears(p) && (p.wants & 1 << good) == 0 && p.tempted(good)) {
            p.wants |= 1 << good;
          }
          p.hope = Math.min(99, p.hope + p.mends());
        }
      }
      if (day % 7 == 6) {
        gold = Math.min(99999, gold + fetches());
        register = new int[12];
      }
      day = Math.min(99999, day + 1);
    }

    World behind(int days) {
      World w = twin();
      for (int i = 0; i < days; i++) {
        w.dayGoesBy();
      }
      return w;
    }

    World with(Consumer<World> otherwise) {
      World w = twin();
      otherwise.accept(w);
      return w;
    }

    int draw() {
      z = z * 1103515245 + 12345;
      return z >>> 8;
    }
  }

  private World w = new World();
  private World kept;
  private String tape = "";
  private final int[][] sheets = new int[4][];
  private final int[] bits = new int[4];
  private final int[] found = new int[7];

  /** What a call answers; a finding is counted here, whatever call it comes from. */
  long call(String name, int... a) {
    Finding finding;
    try {
      return answer(name, a);
    } catch (Finding f) {
      finding = f;
    }
    found[finding.which]++;
    return -1000001 - finding.which;
  }

  static final class Finding extends RuntimeException {
    private static final long serialVersionUID = 1;
    final int which;

    Finding(int which) {
      super(null, null, false, false);
      this.which = which;
    }
  }

  private static void unless(boolean fine, int which) {
    if (!fine) {
      throw new Finding(which);
    }
  }

  private static void beyond(int v, int most) {
    unless(v >= 0 && v <= most, 0);
  }

  private Person person(int r) {
    beyond(r, w.people.size() - 1);
    return w.people.get(r);
  }

  private static int kindOf(Person p) {
    return CLASSES.indexOf(p.getClass());
  }

  private long answer(String name, int[] a) {
    switch (name) {
      case "set": case "crier": case "cry": case "listed": case "resident": case "of":
      case "change": case "tempted": case "register": case "comers":
        return street(name, a);
      case "go": case "now": case "ahead": case "gold": case "stands": case "wants":
      case "despair":
        return days(name, a);
      case "cryFor": case "startFor": case "loudFor": case "kindFor": case "empty": case "cover":
        return plans(name, a);
      case "fits": case "kinds": case "hawk": case "odds": case "seed":
        return standingsAndDraws(name, a);
      case "feed": case "wipe": case "text":
        return texts(name, a);
      case "hold": case "as": case "sheet": case "write": case "copy": case "load": case "judge":
        return sheets(name, a);
      default:
        return images(name, a);
    }
  }

  private static final int[] TOP_CRIER = {15, 5, 9};
  private static final int[] TOP_CHANGE = {6, 15, 4095, 99, 9999, 1};

  private long street(String name, int[] a) {
    int was;
    switch (name) {
      case "set":
        beyond(a[0], 2);
        beyond(a[1], TOP_CRIER[a[0]]);
        was = w.crier[a[0]];
        w.crier[a[0]] = a[1];
        return was;
      case "crier":
        beyond(a[0], 2);
        return w.crier[a[0]];
      case "cry":
        beyond(a[0], 5);
        beyond(a[1], 11);
        was = w.list[a[0]];
        w.list[a[0]] = a[1];
        return was;
      case "listed":
        beyond(a[0], 5);
        return w.list[a[0]];
      case "resident":
        beyond(a[0], 6);
        beyond(a[1], 15);
        unless(w.people.size() < 8, 1);
        Person fresh = make(a[0]);
        fresh.door = a[1];
        w.people.add(fresh);
        return w.people.size() - 1;
      case "of":
        return of(w, person(a[0]), a[1]);
      case "change":
        Person p = person(a[0]);
        beyond(a[1], 5);
        beyond(a[2], TOP_CHANGE[a[1]]);
        was = of(w, p, a[1]);
        put(a[0], a[1], a[2]);
        return was;
      case "tempted":
        Person one = person(a[0]);
        beyond(a[1], 11);
        return one.tempted(a[1]) ? 1 : 0;
      case "register":
        beyond(a[0], 11);
        return w.register[a[0]];
      default:
        beyond(a[0], 11);
        int group = 0;
        for (int i = 0; i < w.people.size(); i++) {
          group += w.comes(w.people.get(i), a[0]) ? 1 << i : 0;
        }
        return group;
    }
  }

  private static int of(World w, Person p, int what) {
    beyond(what, 10);
    int[] all = {kindOf(p), p.door, p.wants, p.hope, p.stood, p.away ? 1 : 0, p.hears(w.crier[2]),
        p.trusts(), p.loses(), p.mends(), Math.abs(p.door - w.crier[0])};
    return all[what];
  }

  private void put(int r, int what, int v) {
    Person p = w.people.get(r);
    switch (what) {
      case 0: w.people.set(r, p.as(v)); break;
      case 1: p.door = v; break;
      case 2: p.wants = v; break;
      case 3: p.hope = v; break;
      case 4: p.stood = v; break;
      default: p.away = v == 1; break;
    }
  }

  private int sumOf(int what) {
    return w.people.stream().mapToInt(p -> of(w, p, what)).sum();
  }

  private long days(String name, int[] a) {
    switch (name) {
      case "go":
        unless(a[0] >= 1 && a[0] <= 60, 0);
        unless(w.day + a[0] <= 99999, 4);
        w = w.behind(a[0]);
        return w.gold;
      case "now":
        beyond(a[0], 7);
        int wanted = w.people.stream().mapToInt(p -> p.wants).reduce(0, (i, j) -> i | j);
        int came = 0;
        for (int g = 0; g < 12; g++) {
          came += w.register[g] > 0 ? 1 << g : 0;
        }
        int[] all = {w.day, w.gold, wanted, sumOf(3), sumOf(4),
            Arrays.stream(w.register).sum(), came, w.fetches()};
        return all[a[0]];
      case "ahead":
        person(a[0]);
        unless(a[1] == 2 || a[1] == 3 || a[1] == 4 || a[1] == 6, 0);
        beyond(a[2], 100);
        World then = w.behind(a[2]);
        return of(then, then.people.get(a[0]), a[1]);
      case "gold":
        beyond(a[0], 100);
        return w.behind(a[0]).gold;
      case "stands":
        person(a[0]);
        beyond(a[1], 9999);
        return fewest(201, d -> w.behind(d).people.get(a[0]).stood >= a[1]);
      case "wants":
        person(a[0]);
        beyond(a[1], 11);
        return fewest(201, d -> (w.behind(d).people.get(a[0]).wants >> a[1]) % 2 == 1);
      default:
        person(a[0]);
        beyond(a[1], 99);
        return fewest(201, d -> w.behind(d).people.get(a[0]).hope <= a[1]);
    }
  }

  private static int fewest(int below, IntPredicate so) {
    for (int i = 0; i < below; i++) {
      if (so.test(i)) {
        return i;
      }
    }
    throw new Finding(3);
  }

  /** The first of the greatest. */
  private static int best(int... values) {
    int best = 0;
    for (int i = 0; i < values.length; i++) {
      if (values[i] > values[best]) {
        best = i;
      }
    }
    return best;
  }

  private int fewestPeople(IntPredicate so) {
    int best = -1;
    for (int group = 0; group < 1 << w.people.size(); group++) {
      boolean isFewer = best < 0 || Integer.bitCount(group) < Integer.bitCount(best);
      if (isFewer && so.test(group)) {
        best = group;
      }
    }
    unless(best >= 0, 3);
    return best;
  }

  private long plans(String name, int[] a) {
    switch (name) {
      case "cryFor":
        beyond(a[0], 5);
        beyond(a[1], 60);
        int[] byGood = new int[12];
        for (int i = 0; i < 12; i++) {
          int good = i;
          byGood[i] = w.with(x -> x.list[a[0]] = good).behind(a[1]).gold;
        }
        return best(byGood);
      case "startFor":
        beyond(a[0], 60);
        int[] byDoor = new int[16];
        for (int i = 0; i < 16; i++) {
          int door = i;
          byDoor[i] = w.with(x -> x.crier[0] = door).behind(a[0]).gold;
        }
        return best(byDoor);
      case "loudFor":
        beyond(a[0], 99999);
        beyond(a[1], 60);
        return fewest(10, loud -> w.with(x -> x.crier[2] = loud).behind(a[1]).gold >= a[0]);
      case "kindFor":
        Person p = person(a[0]);
        beyond(a[1], 60);
        int[] byKind = new int[7];
        for (int i = 0; i < 7; i++) {
          Person other = p.as(i);
          byKind[i] = w.with(x -> x.people.set(a[0], other)).behind(a[1]).people.get(a[0]).stood;
        }
        return best(byKind);
      case "empty":
        beyond(a[0], 20);
        return fewestPeople(group -> w.with(x -> {
          for (int i = 0; i < x.people.size(); i++) {
            x.people.get(i).away |= (group >> i) % 2 == 1;
          }
        }).behind(a[0]).gold == w.gold);
      default:
        beyond(a[0], 4095);
        return fewestPeople(group -> {
          int left = a[0];
          for (int i = 0; i < w.people.size(); i++) {
            left &= (group >> i) % 2 == 1 ? ~w.people.get(i).wants : -1;
          }
          return left == 0;
        });
    }
  }

  private int[] sheetOf(int s) {
    beyond(s, 3);
    unless(sheets[s] != null, 5);
    return sheets[s];
  }

  private boolean isTold(int[] told, int r, World from) {
    for (int i = 0; i < told.length; i++) {
      if (told[i] != -1 && from.behind(i).people.get(r).stood != told[i]) {
        return false;
      }
    }
    return true;
  }

  private long standingsAndDraws(String name, int[] a) {
    int set = 0;
    switch (name) {
      case "fits":
        int[] standings = sheetOf(a[0]);
        person(a[1]);
        for (int g = 0; g < 12; g++) {
          int good = g;
          World other = w.with(x -> x.people.get(a[1]).wants = 1 << good);
          set += isTold(standings, a[1], other) ? 1 << g : 0;
        }
        return set;
      case "kinds":
        int[] told = sheetOf(a[0]);
        Person p = person(a[1]);
        for (int k = 0; k < 7; k++) {
          Person as = p.as(k);
          set += isTold(told, a[1], w.with(x -> x.people.set(a[1], as))) ? 1 << k : 0;
        }
        return set;
      case "hawk":
        unless(a[0] >= 1 && a[0] <= 20, 0);
        unless(w.day + a[0] <= 99999, 4);
        for (int i = 0; i < a[0]; i++) {
          int good = w.draw() % 12;
          int loud = w.draw() % 10;
          w.list[w.day % 6] = good;
          w.crier[2] = loud;
          w.dayGoesBy();
        }
        return w.gold;
      case "odds":
        int wanted = Integer.bitCount(person(a[0]).wants);
        beyond(a[1], 17);
        beyond(a[2], 1);
        java.math.BigInteger above = java.math.BigInteger.valueOf(wanted).pow(a[1]);
        java.math.BigInteger below = java.math.BigInteger.valueOf(12).pow(a[1]);
        java.math.BigInteger shared = above.gcd(below);
        return (a[2] == 0 ? above : below).divide(shared).longValueExact();
      default:
        int was = w.z;
        w.z = a[0];
        return was;
    }
  }

  private long texts(String name, int[] a) {
    int had = tape.length();
    switch (name) {
      case "feed":
        unless(a[1] >= 1 && a[1] <= 4, 0);
        unless(had + a[1] <= 120, 1);
        String all = "";
        for (int i = 0; i < 4; i++) {
          all = (char) (a[0] >> 8 * i & 255) + all;
        }
        tape += all.substring(4 - a[1]);
        return tape.length();
      case "wipe":
        tape = "";
        return had;
      default:
        String text = tape;
        tape = "";
        return read(text);
    }
  }

  private static final Pattern TOKEN = Pattern.compile(" *([a-z]+|[0-9]+|[^ ])");

  private static final class Fault extends RuntimeException {
    private static final long serialVersionUID = 1;

    Fault() {
      super(null, null, false, false);
    }
  }

  private List<String> tokens;
  private List<Integer> places;
  private int at;

  private long read(String text) {
    tokens = new ArrayList<>();
    places = new ArrayList<>();
    at = 0;
    Matcher m = TOKEN.matcher(text);
    while (m.find()) {
      tokens.add(m.group(1));
      places.add(m.start(1));
    }
    tokens.add("");
    places.add(text.length());
    World before = w.twin();
    try {
      return items();
    } catch (Fault f) {
      w = before;
      return -1 - places.get(at);
    }
  }

  private int items() {
    int n = 0;
    do {
      item();
      n++;
    } while (isNext(";"));
    if (!tokens.get(at).isEmpty()) {
      throw new Fault();
    }
    return n;
  }

  private boolean isNext(String token) {
    boolean is = tokens.get(at).equals(token);
    at += is ? 1 : 0;
    return is;
  }

  private int number(int most) {
    String token = tokens.get(at);
    if (!token.matches("0*[0-9]{1,4}") || Integer.parseInt(token) > most) {
      throw new Fault();
    }
    at++;
    return Integer.parseInt(token);
  }

  private void item() {
    if (isNext("crier")) {
      w.crier[0] = number(15);
      w.crier[1] = isNext("pace") ? number(5) : w.crier[1];
      w.crier[2] = isNext("loud") ? number(9) : w.crier[2];
    } else if (isNext("cry")) {
      int place = number(5);
      w.list[place] = number(11);
    } else {
      int kind = Arrays.asList(WORDS).indexOf(tokens.get(at));
      if (kind < 0 || w.people.size() == 8) {
        throw new Fault();
      }
      at++;
      Person p = make(kind);
      p.door = isNext("at") ? number(15) : 0;
      p.wants = isNext("wants") ? number(4095) : 0;
      p.hope = isNext("hope") ? number(99) : 50;
      p.away = isNext("away");
      w.people.add(p);
    }
  }

  private long sheets(String name, int[] a) {
    switch (name) {
      case "hold":
        beyond(a[0], 9);
        unless(a[1] >= -1 && a[1] < w.people.size(), 0);
        w.spots[a[0]] = a[1];
        return 1;
      case "as":
        beyond(a[0], 9);
        beyond(a[1], 6);
        unless(w.spots[a[0]] >= 0, 5);
        unless(CLASSES.get(a[1]).isInstance(w.people.get(w.spots[a[0]])), 2);
        return w.spots[a[0]];
      case "sheet":
        beyond(a[0], 3);
        unless(List.of(0, 8, 16, 32).contains(a[1]), 0);
        unless(a[2] >= 0, 6);
        beyond(a[2], 40);
        bits[a[0]] = a[1];
        sheets[a[0]] = a[1] == 0 ? null : new int[a[2]];
        return a[1] == 0 ? 0 : a[2];
      case "write":
        beyond(a[1], sheetOf(a[0]).length - 1);
        int off = 32 - bits[a[0]];
        sheets[a[0]][a[1]] = a[2] << off >> off;
        return 1;
      case "copy":
        return copy(a);
      case "load":
        int[] loaded = sheetOf(a[0]);
        for (int i = 0; i < loaded.length; i++) {
          if (i >= w.people.size() || loaded[i] < 0 || loaded[i] > 4095) {
            return i;
          }
          w.people.get(i).wants = loaded[i];
        }
        return loaded.length;
      default:
        int[] told = sheetOf(a[0]);
        int same = 0;
        while (same < told.length && same < 12 && told[same] == w.register[same]) {
          same++;
        }
        return same == told.length ? 0 : 1 + same;
    }
  }

  private long copy(int[] a) {
    beyond(a[0], 3);
    beyond(a[2], 3);
    int[] from = sheetOf(a[0]);
    int[] to = sheetOf(a[2]);
    unless(bits[a[0]] == bits[a[2]], 2);
    unless(a[1] >= 0 && a[3] >= 0 && a[4] >= 0, 0);
    unless((long) a[1] + a[4] <= from.length && (long) a[3] + a[4] <= to.length, 0);
    int[] were = from.clone();
    for (int i = 0; i < a[4]; i++) {
      to[a[3] + i] = were[a[1] + i];
    }
    return a[4];
  }

  private long images(String name, int[] a) {
    switch (name) {
      case "image":
        kept = w.twin();
        return 1;
      case "undo":
        unless(kept != null, 3);
        w = kept.twin();
        return w.day;
      case "tear":
        int was = kept == null ? 0 : 1;
        kept = null;
        return was;
      case "count":
        beyond(a[0], 7);
        int held = (int) Arrays.stream(w.spots).filter(v -> v >= 0).count();
        int[] all = {w.day, w.people.size(), w.gold, sumOf(4), sumOf(3), tape.length(), w.z, held};
        return all[a[0]];
      default:
        unless(a[0] >= -1 && a[0] <= 6, 0);
        return a[0] < 0 ? Arrays.stream(found).sum() : found[a[0]];
    }
  }
}
