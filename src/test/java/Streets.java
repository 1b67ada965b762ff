/** Streets that several tests begin from. */
final class Streets {
  private Streets() {
  }

  /** Nobody lives there, and the crier stays at door 0, as loud as told. */
  static EmptyBarrow standing(int loud) {
    EmptyBarrow x = Checks.standing();
    x.set(2, loud);
    return x;
  }

  /** The same, with one resident, who wants what is told and has so much hope. */
  static EmptyBarrow withOne(int kind, int door, int wants, int hope) {
    EmptyBarrow x = Checks.standing();
    x.resident(kind, door);
    x.change(0, 2, wants);
    x.change(0, 3, hope);
    return x;
  }

  /** So many widows at his door; each comes whenever he cries what she wants, whatever her hope. */
  static EmptyBarrow widows(int n, int wants) {
    EmptyBarrow x = Checks.standing();
    for (int i = 0; i < n; i++) {
      x.resident(Checks.WIDOW, 0);
      x.change(i, 2, wants);
    }
    return x;
  }

  /** Three residents, an empty tape, sheets that are missing, nothing kept. */
  static EmptyBarrow roomy() {
    EmptyBarrow x = new EmptyBarrow();
    x.resident(Checks.RESIDENT, 1);
    x.resident(Checks.WIDOW, 2);
    x.resident(Checks.LAD, 3);
    return x;
  }

  /**
   * All is as unlike a new object as can be: eight residents, a full tape, a register with something
   * in it, sheets 0 and 1 of 8 bits (5 and 3 numbers), 2 of 16 (4 numbers), 3 missing, and an image
   * of an earlier day.
   */
  static EmptyBarrow busy() {
    EmptyBarrow x = new EmptyBarrow();
    x.set(0, 3);
    x.set(1, 1);
    x.set(2, 6);
    x.cry(2, 9);
    int[] hope = {85, 33, 70, 41, 55, 22, 60, 99};
    for (int i = 0; i < 8; i++) {
      x.resident(i % 7, 2 * i);
      x.change(i, 2, 7 + 64 * i);
      x.change(i, 3, hope[i]);
    }
    x.change(6, 4, 12);
    x.change(7, 5, 1);
    x.go(4);
    x.hold(0, 0);
    x.hold(9, 7);
    x.hold(3, 4);
    x.seed(99);
    x.image();
    x.go(1);
    x.set(0, 7);
    x.cry(1, 8);
    x.hold(0, 3);
    x.seed(-7);
    Checks.tell(x, 0, 8, 1, 2, 3, 4, 5);
    Checks.tell(x, 1, 8, 7, 8, 9);
    Checks.tell(x, 2, 16, 300, 301, 302, 303);
    String text = "crier 9 pace 4 loud 8;cry 0 11;cry 5 10";
    Checks.feed(x, text + " ".repeat(120 - text.length()));
    return x;
  }
}
