import java.util.function.ToLongFunction;

/** Promise 44 for every call: each finding is counted once, in its place and in all. */
public final class FindingsTest {
  public static void main(String[] args) {
    beyond();
    others();
    Checks.finish("FindingsTest");
  }

  /** One cook, who stands in spot 0; sheets 0 and 1 of 8 bits, sheet 2 of 16. */
  private static EmptyBarrow street() {
    EmptyBarrow x = Checks.standing();
    x.resident(Checks.COOK, 0);
    x.hold(0, 0);
    x.sheet(0, 8, 3);
    x.sheet(1, 8, 2);
    x.sheet(2, 16, 3);
    return x;
  }

  private static void counted(String call, EmptyBarrow x, ToLongFunction<EmptyBarrow> act,
      int finding) {
    int place = Checks.BEYOND - finding;
    int before = x.status(place);
    int all = x.status(-1);
    Checks.due(call, act.applyAsLong(x), finding);
    Checks.due(call + " counted", x.status(place), before + 1);
    Checks.due(call + " counted in all", x.status(-1), all + 1);
  }

  private static void beyond(String call, ToLongFunction<EmptyBarrow> act) {
    counted(call, street(), act, Checks.BEYOND);
  }

  private static void beyond() {
    beyond("set", x -> x.set(3, 0));
    beyond("crier", x -> x.crier(3));
    beyond("cry", x -> x.cry(6, 0));
    beyond("listed", x -> x.listed(6));
    beyond("resident", x -> x.resident(7, 0));
    beyond("of", x -> x.of(1, 0));
    beyond("change", x -> x.change(1, 0, 0));
    beyond("tempted", x -> x.tempted(1, 0));
    beyond("register", x -> x.register(12));
    beyond("comers", x -> x.comers(12));
    beyond("go", x -> x.go(0));
    beyond("now", x -> x.now(8));
    beyond("ahead", x -> x.ahead(0, 5, 0));
    beyond("gold", x -> x.gold(101));
    beyond("stands", x -> x.stands(0, 10000));
    beyond("wants", x -> x.wants(0, 12));
    beyond("despair", x -> x.despair(0, 100));
    beyond("cryFor", x -> x.cryFor(0, 61));
    beyond("startFor", x -> x.startFor(61));
    beyond("loudFor", x -> x.loudFor(0, 61));
    beyond("kindFor", x -> x.kindFor(0, 61));
    beyond("empty", x -> x.empty(21));
    beyond("cover", x -> x.cover(4096));
    beyond("fits", x -> x.fits(4, 0));
    beyond("fits of nobody", x -> x.fits(0, 1));
    beyond("kinds", x -> x.kinds(4, 0));
    beyond("kinds of nobody", x -> x.kinds(0, 1));
    beyond("hawk", x -> x.hawk(21));
    beyond("odds", x -> x.odds(0, 18, 0));
    beyond("feed", x -> x.feed(0, 5));
    beyond("hold", x -> x.hold(10, 0));
    beyond("as", x -> x.as(10, 0));
    beyond("sheet", x -> x.sheet(4, 8, 0));
    beyond("sheet of many", x -> x.sheet(0, 8, 41));
    beyond("write", x -> x.write(4, 0, 0));
    beyond("write far", x -> x.write(0, 3, 0));
    beyond("copy", x -> x.copy(4, 0, 0, 0, 0));
    beyond("copy far", x -> x.copy(0, 0, 1, 0, 3));
    beyond("load", x -> x.load(4));
    beyond("judge", x -> x.judge(4));
    beyond("count", x -> x.count(8));
    beyond("status", x -> x.status(7));
  }

  private static void others() {
    EmptyBarrow full = street();
    for (int i = 0; i < 7; i++) {
      full.resident(Checks.BOY, 0);
    }
    for (int i = 0; i < 30; i++) {
      full.feed(0, 4);
    }
    counted("resident", full, x -> x.resident(0, 0), Checks.FULL);
    counted("feed", full, x -> x.feed(0, 1), Checks.FULL);
    counted("as", street(), x -> x.as(0, 2), Checks.KIND);
    counted("copy", street(), x -> x.copy(0, 0, 2, 0, 1), Checks.KIND);
    counted("stands", street(), x -> x.stands(0, 1), Checks.NONE);
    counted("wants", street(), x -> x.wants(0, 1), Checks.NONE);
    counted("despair", street(), x -> x.despair(0, 1), Checks.NONE);
    counted("loudFor", street(), x -> x.loudFor(1, 60), Checks.NONE);
    counted("cover", street(), x -> x.cover(1), Checks.NONE);
    counted("undo", street(), x -> x.undo(), Checks.NONE);
    EmptyBarrow sold = street();
    sold.change(0, 2, 1);
    sold.go(1);
    counted("empty", sold, x -> x.empty(6), Checks.NONE);
    counted("as", street(), x -> x.as(1, 0), Checks.MISSING);
    counted("fits", street(), x -> x.fits(3, 0), Checks.MISSING);
    counted("kinds", street(), x -> x.kinds(3, 0), Checks.MISSING);
    counted("write", street(), x -> x.write(3, 0, 0), Checks.MISSING);
    counted("copy", street(), x -> x.copy(0, 0, 3, 0, 0), Checks.MISSING);
    counted("load", street(), x -> x.load(3), Checks.MISSING);
    counted("judge", street(), x -> x.judge(3), Checks.MISSING);
    counted("sheet", street(), x -> x.sheet(0, 0, -1), Checks.SIZE);
  }
}
