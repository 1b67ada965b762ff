import java.util.Arrays;

/**
 * A street along which a crier goes with an empty barrow: who comes to the step for what he cries,
 * what the register of them fetches, and what he had better cry.
 */
public final class EmptyBarrow {
  private static final int LOW = -1000001;
  private static final int BEYOND = LOW;
  private static final int FULL = LOW - 1;
  private static final int KIND = LOW - 2;
  private static final int NONE = LOW - 3;
  private static final int STATE = LOW - 4;
  private static final int MISSING = LOW - 5;
  private static final int SIZE = LOW - 6;
  private static final int FINDINGS = 7;

  private static final int DOORS = 16;
  private static final int GOODS = 12;
  private static final int ALL_GOODS = 4095;
  private static final int PLACES = 6;
  private static final int TOP_PACE = 5;
  private static final int TOP_LOUD = 9;
  private static final int TOP_REGISTER = 999;
  private static final int TOP_GOLD = 99999;
  private static final int LAST_DAY = 99999;
  private static final int WEEK = 7;

  private static final int RESIDENTS = 8;
  private static final int TOP_HOPE = 99;
  private static final int TOP_STOOD = 9999;

  private static final int KINDS = 7;
  private static final int RESIDENT = 0;
  private static final int MAID = 1;
  private static final int BOY = 2;
  private static final int COOK = 3;
  private static final int WIDOW = 4;
  private static final int DEAF = 5;
  private static final int LAD = 6;
  /** The kind that each kind is under; -1 where there is none. */
  private static final int[] ABOVE = {-1, RESIDENT, RESIDENT, MAID, COOK, RESIDENT, BOY};

  /** What of() and change() tell of a resident, by number. */
  private static final int OF_KIND = 0;
  private static final int OF_DOOR = 1;
  private static final int OF_WANTS = 2;
  private static final int OF_HOPE = 3;
  private static final int OF_STOOD = 4;
  private static final int OF_AWAY = 5;
  private static final int OF_HEARS = 6;
  private static final int OF_TRUSTS = 7;
  private static final int OF_LOSES = 8;
  private static final int OF_MENDS = 9;
  private static final int OF_FAR = 10;
  /** The greatest values of what change() may change, by the same numbers. */
  private static final int[] TOP_OF = {KINDS - 1, DOORS - 1, ALL_GOODS, TOP_HOPE, TOP_STOOD, 1};
  /** The greatest values of what set() may set: door, pace, loud. */
  private static final int[] TOP_OF_CRIER = {DOORS - 1, TOP_PACE, TOP_LOUD};

  private static final int TOP_GO = 60;
  private static final int TOP_AHEAD = 100;
  private static final int TOP_SEARCH = 200;
  private static final int TOP_PLAN = 60;
  private static final int TOP_EMPTY = 20;
  private static final int TOP_HAWK = 20;
  private static final int TOP_ODDS = 17;

  private static final int SPOTS = 10;
  private static final int NOBODY = -1;
  private static final int SHEETS = 4;
  private static final int SHEET_ROOM = 40;
  private static final int ANY = -1;

  private static final int TAPE_ROOM = 120;
  private static final int END = 0;
  private static final int WORD = 1;
  private static final int NUMBER = 2;
  private static final int SIGN = 3;
  private static final int NO_TOKEN = 4;
  /** A number above all that a text may tell; longer ones stay here, so that none overflows. */
  private static final int TOO_GREAT = 10000;

  private final Street street = new Street();
  /** Where all that only might be is tried; made once, since every object made is counted. */
  private final Street trial = new Street();
  private final Street kept = new Street();
  private boolean isKept = false;
  /** What trials came to, by what was tried; doors are the most that can be. */
  private final int[] outcomes = new int[DOORS];
  private final Tape tape = new Tape();
  private final Sheet[] sheets = {new Sheet(), new Sheet(), new Sheet(), new Sheet()};
  private final int[] findings = new int[FINDINGS];

  public EmptyBarrow() {
  }

  // ---- street, residents

  public int set(int what, int v) {
    if (!isWithin(what, 0, 2) || !isWithin(v, 0, TOP_OF_CRIER[what])) {
      return finding(BEYOND);
    }
    int was = street.ofCrier(what);
    if (what == 0) {
      street.door = v;
    } else if (what == 1) {
      street.pace = v;
    } else {
      street.loud = v;
    }
    return was;
  }

  public int crier(int what) {
    if (!isWithin(what, 0, 2)) {
      return finding(BEYOND);
    }
    return street.ofCrier(what);
  }

  public int cry(int i, int good) {
    if (!isPlace(i) || !isGood(good)) {
      return finding(BEYOND);
    }
    int was = street.list[i];
    street.list[i] = good;
    return was;
  }

  public int listed(int i) {
    if (!isPlace(i)) {
      return finding(BEYOND);
    }
    return street.list[i];
  }

  public int resident(int kind, int door) {
    if (!isKind(kind) || !isWithin(door, 0, DOORS - 1)) {
      return finding(BEYOND);
    }
    if (street.isFull()) {
      return finding(FULL);
    }
    return street.moveIn(kind, door);
  }

  public int of(int resident, int what) {
    if (!street.has(resident) || !isWithin(what, OF_KIND, OF_FAR)) {
      return finding(BEYOND);
    }
    return street.tell(resident, what);
  }

  public int change(int resident, int what, int v) {
    if (!street.has(resident) || !isWithin(what, OF_KIND, OF_AWAY)
        || !isWithin(v, 0, TOP_OF[what])) {
      return finding(BEYOND);
    }
    int was = street.tell(resident, what);
    street.residents[resident].put(what, v);
    return was;
  }

  public int tempted(int resident, int good) {
    if (!street.has(resident) || !isGood(good)) {
      return finding(BEYOND);
    }
    return street.residents[resident].isTemptedBy(good) ? 1 : 0;
  }

  public int register(int good) {
    if (!isGood(good)) {
      return finding(BEYOND);
    }
    return street.register[good];
  }

  public int comers(int good) {
    if (!isGood(good)) {
      return finding(BEYOND);
    }
    return street.whoWouldCome(good);
  }

  // ---- days

  public int go(int n) {
    if (!isWithin(n, 1, TOP_GO)) {
      return finding(BEYOND);
    }
    if (street.day + n > LAST_DAY) {
      return finding(STATE);
    }
    street.passDays(n);
    return street.gold;
  }

  public int now(int what) {
    switch (what) {
      case 0: return street.day;
      case 1: return street.gold;
      case 2: return street.wantedBy(street.everybody());
      case 3: return street.allHope();
      case 4: return street.allStood();
      case 5: return street.allRegister();
      case 6: return street.goodsInRegister();
      case 7: return street.fetches();
      default: return finding(BEYOND);
    }
  }

  // ---- what will be (nothing changes)

  public int ahead(int resident, int what, int n) {
    boolean isTold = isWithin(what, OF_WANTS, OF_STOOD) || what == OF_HEARS;
    if (!street.has(resident) || !isTold || !isWithin(n, 0, TOP_AHEAD)) {
      return finding(BEYOND);
    }
    trial.become(street);
    trial.passDays(n);
    return trial.tell(resident, what);
  }

  public int gold(int n) {
    if (!isWithin(n, 0, TOP_AHEAD)) {
      return finding(BEYOND);
    }
    trial.become(street);
    trial.passDays(n);
    return trial.gold;
  }

  public int stands(int resident, int v) {
    if (!street.has(resident) || !isWithin(v, 0, TOP_STOOD)) {
      return finding(BEYOND);
    }
    return daysUntil(resident, OF_STOOD, v);
  }

  public int wants(int resident, int good) {
    if (!street.has(resident) || !isGood(good)) {
      return finding(BEYOND);
    }
    return daysUntil(resident, OF_WANTS, good);
  }

  public int despair(int resident, int v) {
    if (!street.has(resident) || !isWithin(v, 0, TOP_HOPE)) {
      return finding(BEYOND);
    }
    return daysUntil(resident, OF_HOPE, v);
  }

  // ---- what to cry

  public int cryFor(int i, int n) {
    if (!isPlace(i) || !isWithin(n, 0, TOP_PLAN)) {
      return finding(BEYOND);
    }
    for (int good = 0; good < GOODS; good++) {
      trial.become(street);
      trial.list[i] = good;
      trial.passDays(n);
      outcomes[good] = trial.gold;
    }
    return firstGreatestOutcome(GOODS);
  }

  public int startFor(int n) {
    if (!isWithin(n, 0, TOP_PLAN)) {
      return finding(BEYOND);
    }
    for (int door = 0; door < DOORS; door++) {
      trial.become(street);
      trial.door = door;
      trial.passDays(n);
      outcomes[door] = trial.gold;
    }
    return firstGreatestOutcome(DOORS);
  }

  public int loudFor(int v, int n) {
    if (!isWithin(v, 0, TOP_GOLD) || !isWithin(n, 0, TOP_PLAN)) {
      return finding(BEYOND);
    }
    for (int loud = 0; loud <= TOP_LOUD; loud++) {
      trial.become(street);
      trial.loud = loud;
      trial.passDays(n);
      if (trial.gold >= v) {
        return loud;
      }
    }
    return finding(NONE);
  }

  public int kindFor(int resident, int n) {
    if (!street.has(resident) || !isWithin(n, 0, TOP_PLAN)) {
      return finding(BEYOND);
    }
    for (int kind = 0; kind < KINDS; kind++) {
      trial.become(street);
      trial.residents[resident].kind = kind;
      trial.passDays(n);
      outcomes[kind] = trial.residents[resident].stood;
    }
    return firstGreatestOutcome(KINDS);
  }

  public int empty(int n) {
    if (!isWithin(n, 0, TOP_EMPTY)) {
      return finding(BEYOND);
    }
    int everybody = street.everybody();
    for (int size = 0; size <= street.people; size++) {
      for (int group = 0; group <= everybody; group++) {
        if (Integer.bitCount(group) == size && earnsNothingWithout(group, n)) {
          return group;
        }
      }
    }
    return finding(NONE);
  }

  public int cover(int goods) {
    if (!isWithin(goods, 0, ALL_GOODS)) {
      return finding(BEYOND);
    }
    int everybody = street.everybody();
    for (int size = 0; size <= street.people; size++) {
      for (int group = 0; group <= everybody; group++) {
        if (Integer.bitCount(group) == size && (goods & ~street.wantedBy(group)) == 0) {
          return group;
        }
      }
    }
    return finding(NONE);
  }

  // ---- told standings

  public int fits(int s, int resident) {
    int wrong = wrongWithStandings(s, resident);
    if (wrong != 0) {
      return finding(wrong);
    }
    int goods = 0;
    for (int good = 0; good < GOODS; good++) {
      trial.become(street);
      trial.residents[resident].wants = 1 << good;
      if (standsAsTold(sheets[s], resident)) {
        goods |= 1 << good;
      }
    }
    return goods;
  }

  public int kinds(int s, int resident) {
    int wrong = wrongWithStandings(s, resident);
    if (wrong != 0) {
      return finding(wrong);
    }
    int kinds = 0;
    for (int kind = 0; kind < KINDS; kind++) {
      trial.become(street);
      trial.residents[resident].kind = kind;
      if (standsAsTold(sheets[s], resident)) {
        kinds |= 1 << kind;
      }
    }
    return kinds;
  }

  // ---- cries by draws

  public int hawk(int n) {
    if (!isWithin(n, 1, TOP_HAWK)) {
      return finding(BEYOND);
    }
    if (street.day + n > LAST_DAY) {
      return finding(STATE);
    }
    for (int i = 0; i < n; i++) {
      street.list[street.day % PLACES] = street.draw() % GOODS;
      street.loud = street.draw() % (TOP_LOUD + 1);
      street.passDay();
    }
    return street.gold;
  }

  public long odds(int resident, int n, int what) {
    if (!street.has(resident) || !isWithin(n, 0, TOP_ODDS) || !isWithin(what, 0, 1)) {
      return finding(BEYOND);
    }
    int wanted = Integer.bitCount(street.residents[resident].wants);
    int shared = commonDivisor(wanted, GOODS);
    // A power of a fraction in lowest terms is in lowest terms, too.
    return power((what == 0 ? wanted : GOODS) / Math.max(1, shared), n);
  }

  public int seed(int v) {
    int was = street.z;
    street.z = v;
    return was;
  }

  // ---- texts

  public int feed(int bytes, int n) {
    if (!isWithin(n, 1, 4)) {
      return finding(BEYOND);
    }
    if (tape.length + n > TAPE_ROOM) {
      return finding(FULL);
    }
    for (int i = n - 1; i >= 0; i--) {
      tape.append((byte) (bytes >>> (8 * i)));
    }
    return tape.length;
  }

  public int wipe() {
    int had = tape.length;
    tape.clear();
    return had;
  }

  public int text() {
    // Read onto the trial, so that a fault in a late item leaves the street as it was.
    trial.become(street);
    TextReader reader = new TextReader(tape, trial);
    boolean isText = reader.readItems();
    int answer = isText ? reader.items : -1 - tape.start;
    if (isText) {
      street.become(trial);
    }
    tape.clear();
    return answer;
  }

  // ---- spots, sheets

  public int hold(int spot, int resident) {
    if (!isSpot(spot) || (resident != NOBODY && !street.has(resident))) {
      return finding(BEYOND);
    }
    street.spots[spot] = resident;
    return 1;
  }

  public int as(int spot, int kind) {
    if (!isSpot(spot) || !isKind(kind)) {
      return finding(BEYOND);
    }
    int held = street.spots[spot];
    if (!street.has(held)) {
      return finding(MISSING);
    }
    if (!street.residents[held].isOf(kind)) {
      return finding(KIND);
    }
    return held;
  }

  public int sheet(int s, int bits, int n) {
    if (!isSheet(s) || (bits != 0 && bits != 8 && bits != 16 && bits != 32)) {
      return finding(BEYOND);
    }
    if (n < 0) {
      return finding(SIZE);
    }
    if (n > SHEET_ROOM) {
      return finding(BEYOND);
    }
    sheets[s].makeAnew(bits, n);
    return sheets[s].size;
  }

  public int write(int s, int i, int v) {
    int wrong = wrongWithSheet(s);
    if (wrong != 0) {
      return finding(wrong);
    }
    if (!isWithin(i, 0, sheets[s].size - 1)) {
      return finding(BEYOND);
    }
    sheets[s].put(i, v);
    return 1;
  }

  public int copy(int s, int from, int t, int to, int n) {
    if (!isSheet(s) || !isSheet(t)) {
      return finding(BEYOND);
    }
    Sheet source = sheets[s];
    Sheet target = sheets[t];
    if (source.isMissing() || target.isMissing()) {
      return finding(MISSING);
    }
    if (source.bits != target.bits) {
      return finding(KIND);
    }
    if (!source.hasRow(from, n) || !target.hasRow(to, n)) {
      return finding(BEYOND);
    }
    System.arraycopy(source.numbers, from, target.numbers, to, n);
    return n;
  }

  public int load(int s) {
    int wrong = wrongWithSheet(s);
    if (wrong != 0) {
      return finding(wrong);
    }
    Sheet sheet = sheets[s];
    int came = 0;
    while (came < sheet.size && street.has(came)
        && isWithin(sheet.numbers[came], 0, ALL_GOODS)) {
      street.residents[came].wants = sheet.numbers[came];
      came++;
    }
    return came;
  }

  public int judge(int s) {
    int wrong = wrongWithSheet(s);
    if (wrong != 0) {
      return finding(wrong);
    }
    Sheet sheet = sheets[s];
    for (int i = 0; i < sheet.size; i++) {
      // A number behind the last good is the register of none, so it can't be so.
      if (i >= GOODS || sheet.numbers[i] != street.register[i]) {
        return 1 + i;
      }
    }
    return 0;
  }

  // ---- images

  public int image() {
    kept.become(street);
    isKept = true;
    return 1;
  }

  public int undo() {
    if (!isKept) {
      return finding(NONE);
    }
    street.become(kept);
    return street.day;
  }

  public int tear() {
    int was = isKept ? 1 : 0;
    isKept = false;
    return was;
  }

  public int count(int what) {
    switch (what) {
      case 0: return street.day;
      case 1: return street.people;
      case 2: return street.gold;
      case 3: return street.allStood();
      case 4: return street.allHope();
      case 5: return tape.length;
      case 6: return street.z;
      case 7: return street.heldSpots();
      default: return finding(BEYOND);
    }
  }

  public int status(int which) {
    if (!isWithin(which, -1, FINDINGS - 1)) {
      return finding(BEYOND);
    }
    if (which >= 0) {
      return findings[which];
    }
    int all = 0;
    for (int i = 0; i < FINDINGS; i++) {
      all += findings[i];
    }
    return all;
  }

  // ---- what the calls share

  private int finding(int which) {
    int place = LOW - which;
    if (isWithin(place, 0, FINDINGS - 1)) {
      findings[place]++;
    }
    return which;
  }

  private static boolean isWithin(int v, int least, int greatest) {
    return v >= least && v <= greatest;
  }

  private static boolean isGood(int v) {
    return isWithin(v, 0, GOODS - 1);
  }

  private static boolean isPlace(int v) {
    return isWithin(v, 0, PLACES - 1);
  }

  private static boolean isKind(int v) {
    return isWithin(v, 0, KINDS - 1);
  }

  private static boolean isSpot(int v) {
    return isWithin(v, 0, SPOTS - 1);
  }

  private static boolean isSheet(int v) {
    return isWithin(v, 0, SHEETS - 1);
  }

  /** The finding for a call that needs a sheet; 0 if it is there. */
  private int wrongWithSheet(int s) {
    if (!isSheet(s)) {
      return BEYOND;
    }
    return sheets[s].isMissing() ? MISSING : 0;
  }

  /** The finding for a call that reads a resident's standings from a sheet; 0 if it can. */
  private int wrongWithStandings(int s, int resident) {
    int wrong = wrongWithSheet(s);
    if (wrong != 0) {
      return wrong;
    }
    return street.has(resident) ? 0 : BEYOND;
  }

  /** After how many days it is so, by what of() would tell of the resident; or NONE. */
  private int daysUntil(int resident, int what, int v) {
    trial.become(street);
    for (int days = 0; days <= TOP_SEARCH; days++) {
      if (hasReached(trial.residents[resident], what, v)) {
        return days;
      }
      trial.passDay();
    }
    return finding(NONE);
  }

  private static boolean hasReached(Resident one, int what, int v) {
    if (what == OF_STOOD) {
      return one.stood >= v;
    }
    if (what == OF_HOPE) {
      return one.hope <= v;
    }
    return one.isFor(v);
  }

  private int firstGreatestOutcome(int tried) {
    int best = 0;
    for (int i = 1; i < tried && i < DOORS; i++) {
      if (outcomes[i] > outcomes[best]) {
        best = i;
      }
    }
    return best;
  }

  private boolean earnsNothingWithout(int group, int n) {
    trial.become(street);
    trial.sendAway(group);
    // Gold never becomes less, so the first sale that brings some decides.
    for (int i = 0; i < n && trial.gold == street.gold; i++) {
      trial.passDay();
    }
    return trial.gold == street.gold;
  }

  private boolean standsAsTold(Sheet sheet, int resident) {
    for (int i = 0; i < sheet.size; i++) {
      if (i > 0) {
        trial.passDay();
      }
      int told = sheet.numbers[i];
      if (told != ANY && told != trial.residents[resident].stood) {
        return false;
      }
    }
    return true;
  }

  private static int commonDivisor(int a, int b) {
    for (int d = Math.max(a, b); d > 1; d--) {
      if (a % d == 0 && b % d == 0) {
        return d;
      }
    }
    return 1;
  }

  private static long power(long base, int n) {
    long product = 1;
    for (int i = 0; i < n; i++) {
      product *= base;
    }
    return product;
  }

  /** One who lives behind a door of the street, with the ways of its kind. */
  private static final class Resident {
    int kind = RESIDENT;
    int door = 0;
    int wants = 0;
    int hope = 50;
    int stood = 0;
    int away = 0;

    void moveInAs(int newKind, int newDoor) {
      kind = newKind;
      door = newDoor;
      wants = 0;
      hope = 50;
      stood = 0;
      away = 0;
    }

    void become(Resident other) {
      kind = other.kind;
      door = other.door;
      wants = other.wants;
      hope = other.hope;
      stood = other.stood;
      away = other.away;
    }

    void put(int what, int v) {
      switch (what) {
        case OF_KIND: kind = v; break;
        case OF_DOOR: door = v; break;
        case OF_WANTS: wants = v; break;
        case OF_HOPE: hope = v; break;
        case OF_STOOD: stood = v; break;
        default: away = v; break;
      }
    }

    int tell(int what, int crierDoor, int loud) {
      switch (what) {
        case OF_KIND: return kind;
        case OF_DOOR: return door;
        case OF_WANTS: return wants;
        case OF_HOPE: return hope;
        case OF_STOOD: return stood;
        case OF_AWAY: return away;
        case OF_HEARS: return hearing(loud);
        case OF_TRUSTS: return trust();
        case OF_LOSES: return loss();
        case OF_MENDS: return mending();
        default: return farFrom(crierDoor);
      }
    }

    int hearing(int loud) {
      int asMaid = loud + 2;
      int asCook = asMaid / 2;
      switch (kind) {
        case MAID: return asMaid;
        case BOY: return 2 * loud;
        case COOK: return asCook;
        case WIDOW: return asCook + (hope >= 50 ? 1 : 0);
        case DEAF: return 0;
        case LAD: return 15;
        default: return loud;
      }
    }

    int trust() {
      int asResident = 20;
      int asMaid = asResident - 10;
      switch (kind) {
        case MAID: return asMaid;
        case COOK: return asMaid + 30;
        case WIDOW: return 0;
        case LAD: return asResident + (stood >= 10 ? 40 : 0);
        default: return asResident;
      }
    }

    int loss() {
      int asResident = 8;
      int asMaid = asResident - 3;
      int asBoy = 2 * asResident;
      switch (kind) {
        case MAID: return asMaid;
        case BOY: return asBoy;
        case COOK: return asMaid;
        case WIDOW: return 1;
        case DEAF: return asResident + Integer.bitCount(wants);
        case LAD: return asBoy - 6;
        default: return asResident;
      }
    }

    int mending() {
      int asResident = 2;
      int asMaid = asResident + 1;
      switch (kind) {
        case MAID: return asMaid;
        case COOK: return asMaid;
        case WIDOW: return 2 * asMaid;
        case DEAF: return 0;
        case LAD: return asResident + 3;
        default: return asResident;
      }
    }

    boolean isTemptedBy(int good) {
      boolean asBoy = good % 2 == 0;
      switch (kind) {
        case BOY: return asBoy;
        case COOK: return false;
        case WIDOW: return wants == 0;
        case DEAF: return false;
        case LAD: return asBoy || good == 11;
        default: return hope >= 80;
      }
    }

    int farFrom(int crierDoor) {
      return Math.abs(door - crierDoor);
    }

    boolean isFor(int good) {
      return (wants >> good & 1) == 1;
    }

    boolean isOf(int asked) {
      int own = kind;
      for (int step = 0; step < KINDS && isKind(own); step++) {
        if (own == asked) {
          return true;
        }
        own = ABOVE[own];
      }
      return false;
    }

    boolean heeds(int crierDoor, int loud) {
      return farFrom(crierDoor) <= hearing(loud);
    }

    boolean comesFor(int good, int crierDoor, int loud) {
      return away == 0 && isFor(good) && hope >= trust() && heeds(crierDoor, loud);
    }

    void standOnTheStep() {
      stood = Math.min(TOP_STOOD, stood + 1);
      hope = Math.max(0, hope - loss());
    }

    void stayIn(int good, int crierDoor, int loud) {
      // Tempted by the hope it had, not by what it has mended to.
      if (!isFor(good) && heeds(crierDoor, loud) && isTemptedBy(good)) {
        wants |= 1 << good;
      }
      hope = Math.min(TOP_HOPE, hope + mending());
    }
  }

  /** All that an image keeps: the crier, his list and register, the residents, spots and draws. */
  private static final class Street {
    int door = 0;
    int pace = 2;
    int loud = 4;
    final int[] list = {0, 1, 2, 3, 4, 5};
    final int[] register = new int[GOODS];
    int gold = 0;
    int day = 0;
    int z = 1;
    int people = 0;
    final Resident[] residents = new Resident[RESIDENTS];
    final int[] spots = new int[SPOTS];

    Street() {
      for (int i = 0; i < RESIDENTS; i++) {
        residents[i] = new Resident();
      }
      Arrays.fill(spots, NOBODY);
    }

    void become(Street other) {
      door = other.door;
      pace = other.pace;
      loud = other.loud;
      System.arraycopy(other.list, 0, list, 0, PLACES);
      System.arraycopy(other.register, 0, register, 0, GOODS);
      gold = other.gold;
      day = other.day;
      z = other.z;
      people = other.people;
      for (int i = 0; i < people; i++) {
        residents[i].become(other.residents[i]);
      }
      System.arraycopy(other.spots, 0, spots, 0, SPOTS);
    }

    int ofCrier(int what) {
      if (what == 0) {
        return door;
      }
      return what == 1 ? pace : loud;
    }

    boolean has(int resident) {
      return isWithin(resident, 0, people - 1);
    }

    boolean isFull() {
      return people >= RESIDENTS;
    }

    /** The number of the new one, or NOBODY if the street is full. */
    int moveIn(int kind, int atDoor) {
      if (isFull()) {
        return NOBODY;
      }
      residents[people].moveInAs(kind, atDoor);
      people++;
      return people - 1;
    }

    int tell(int resident, int what) {
      return residents[resident].tell(what, door, loud);
    }

    int everybody() {
      return (1 << people) - 1;
    }

    int wantedBy(int group) {
      int goods = 0;
      for (int i = 0; i < people; i++) {
        if ((group >> i & 1) == 1) {
          goods |= residents[i].wants;
        }
      }
      return goods;
    }

    void sendAway(int group) {
      for (int i = 0; i < people; i++) {
        if ((group >> i & 1) == 1) {
          residents[i].away = 1;
        }
      }
    }

    int whoWouldCome(int good) {
      int group = 0;
      for (int i = 0; i < people; i++) {
        if (residents[i].comesFor(good, door, loud)) {
          group |= 1 << i;
        }
      }
      return group;
    }

    int allHope() {
      int all = 0;
      for (int i = 0; i < people; i++) {
        all += residents[i].hope;
      }
      return all;
    }

    int allStood() {
      int all = 0;
      for (int i = 0; i < people; i++) {
        all += residents[i].stood;
      }
      return all;
    }

    int allRegister() {
      int all = 0;
      for (int i = 0; i < GOODS; i++) {
        all += register[i];
      }
      return all;
    }

    int goodsInRegister() {
      int goods = 0;
      for (int i = 0; i < GOODS; i++) {
        if (register[i] > 0) {
          goods |= 1 << i;
        }
      }
      return goods;
    }

    int fetches() {
      int greatest = 0;
      for (int i = 0; i < GOODS; i++) {
        greatest = Math.max(greatest, register[i]);
      }
      return greatest + 5 * Integer.bitCount(goodsInRegister());
    }

    int heldSpots() {
      int held = 0;
      for (int i = 0; i < SPOTS; i++) {
        if (spots[i] != NOBODY) {
          held++;
        }
      }
      return held;
    }

    int draw() {
      z = z * 1103515245 + 12345;
      return z >>> 8;
    }

    void passDays(int n) {
      for (int i = 0; i < n; i++) {
        passDay();
      }
    }

    void passDay() {
      door = (door + pace) % DOORS;
      callOut(list[day % PLACES]);
      if (day % WEEK == WEEK - 1) {
        sellRegister();
      }
      day = Math.min(LAST_DAY, day + 1);
    }

    private void callOut(int good) {
      for (int i = 0; i < people; i++) {
        Resident one = residents[i];
        if (one.comesFor(good, door, loud)) {
          one.standOnTheStep();
          register[good] = Math.min(TOP_REGISTER, register[good] + 1);
        } else if (one.away == 0) {
          one.stayIn(good, door, loud);
        }
      }
    }

    private void sellRegister() {
      gold = Math.min(TOP_GOLD, gold + fetches());
      Arrays.fill(register, 0);
    }
  }

  /** A row of numbers of so many bits; it is missing while it has none. */
  private static final class Sheet {
    int bits = 0;
    int size = 0;
    final int[] numbers = new int[SHEET_ROOM];

    boolean isMissing() {
      return bits == 0;
    }

    void makeAnew(int newBits, int newSize) {
      bits = newBits;
      size = newBits == 0 ? 0 : newSize;
      Arrays.fill(numbers, 0);
    }

    void put(int i, int v) {
      if (bits == 8) {
        numbers[i] = (byte) v;
      } else if (bits == 16) {
        numbers[i] = (short) v;
      } else {
        numbers[i] = v;
      }
    }

    boolean hasRow(int from, int n) {
      // No sum of the two: it could run over.
      return from >= 0 && n >= 0 && n <= size - from;
    }
  }

  /** The bytes that were fed, and the token that is read from them. */
  private static final class Tape {
    private final byte[] bytes = new byte[TAPE_ROOM];
    int length = 0;
    int token = END;
    /** Where the token begins: the place of the fault, if it can't stand there. */
    int start = 0;
    int value = 0;
    private int next = 0;

    void append(byte b) {
      if (length < TAPE_ROOM) {
        bytes[length] = b;
        length++;
      }
    }

    void clear() {
      length = 0;
    }

    void readFirst() {
      next = 0;
      readNext();
    }

    void readNext() {
      while (next < length && bytes[next] == ' ') {
        next++;
      }
      start = next;
      value = 0;
      token = next < length ? tokenBegunBy(bytes[next]) : END;
      if (token == SIGN || token == NO_TOKEN) {
        next++;
        return;
      }
      while (next < length && tokenBegunBy(bytes[next]) == token) {
        if (token == NUMBER) {
          value = Math.min(TOO_GREAT, value * 10 + (bytes[next] - '0'));
        }
        next++;
      }
    }

    boolean isWord(String word) {
      if (token != WORD || next - start != word.length()) {
        return false;
      }
      for (int i = 0; i < word.length(); i++) {
        if (bytes[start + i] != word.charAt(i)) {
          return false;
        }
      }
      return true;
    }

    private static int tokenBegunBy(byte b) {
      if (b >= 'a' && b <= 'z') {
        return WORD;
      }
      if (b >= '0' && b <= '9') {
        return NUMBER;
      }
      return b == ';' ? SIGN : NO_TOKEN;
    }
  }

  /**
   * Reads the items of a text onto a street. Each step goes to the next token only when the one
   * at hand may stand there, so behind a step that fails the tape is at the fault.
   */
  private static final class TextReader {
    private final Tape tape;
    private final Street street;
    int items = 0;
    private int number = 0;

    TextReader(Tape tape, Street street) {
      this.tape = tape;
      this.street = street;
    }

    boolean readItems() {
      tape.readFirst();
      // Each item takes a byte at the least.
      while (items < TAPE_ROOM) {
        if (!readItem()) {
          return false;
        }
        items++;
        if (tape.token != SIGN) {
          return tape.token == END;
        }
        tape.readNext();
      }
      return false;
    }

    private boolean readItem() {
      if (tape.isWord("crier")) {
        return readCrier();
      }
      if (tape.isWord("cry")) {
        return readCry();
      }
      for (int kind = 0; kind < KINDS; kind++) {
        if (tape.isWord(wordOf(kind))) {
          return readResident(kind);
        }
      }
      return false;
    }

    private static String wordOf(int kind) {
      switch (kind) {
        case MAID: return "maid";
        case BOY: return "boy";
        case COOK: return "cook";
        case WIDOW: return "widow";
        case DEAF: return "deaf";
        case LAD: return "lad";
        default: return "resident";
      }
    }

    private boolean readResident(int kind) {
      int index = street.moveIn(kind, 0);
      if (index == NOBODY) {
        return false;
      }
      Resident one = street.residents[index];
      tape.readNext();
      if (!readPerhaps("at", DOORS - 1, one.door)) {
        return false;
      }
      one.door = number;
      if (!readPerhaps("wants", ALL_GOODS, one.wants)) {
        return false;
      }
      one.wants = number;
      if (!readPerhaps("hope", TOP_HOPE, one.hope)) {
        return false;
      }
      one.hope = number;
      if (tape.isWord("away")) {
        one.away = 1;
        tape.readNext();
      }
      return true;
    }

    private boolean readCrier() {
      tape.readNext();
      if (!readUpTo(DOORS - 1)) {
        return false;
      }
      street.door = number;
      if (!readPerhaps("pace", TOP_PACE, street.pace)) {
        return false;
      }
      street.pace = number;
      if (!readPerhaps("loud", TOP_LOUD, street.loud)) {
        return false;
      }
      street.loud = number;
      return true;
    }

    private boolean readCry() {
      tape.readNext();
      if (!readUpTo(PLACES - 1)) {
        return false;
      }
      int place = number;
      if (!readUpTo(GOODS - 1)) {
        return false;
      }
      street.list[place] = number;
      return true;
    }

    /** A word and the number behind it; without the word the number is as it was. */
    private boolean readPerhaps(String word, int greatest, int otherwise) {
      if (!tape.isWord(word)) {
        number = otherwise;
        return true;
      }
      tape.readNext();
      return readUpTo(greatest);
    }

    private boolean readUpTo(int greatest) {
      if (tape.token != NUMBER || tape.value > greatest) {
        return false;
      }
      number = tape.value;
      tape.readNext();
      return true;
    }
  }
}
