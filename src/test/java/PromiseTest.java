import java.util.function.IntSupplier;

/** For each promise of the document: ordinary inputs, its edges, and wrong inputs. */
public final class PromiseTest {
  private static final Class<?> INDEX = IndexOutOfBoundsException.class;
  private static final Class<?> TURN = IllegalStateException.class;
  private static final Class<?> RANGE = IllegalArgumentException.class;
  private static final Class<?> MEANING = UnsupportedOperationException.class;

  private static int wrong = 0;
  private static String promise = "";

  public static void main(String[] args) {
    newObject();
    plate();
    want();
    turn();
    rules();
    bar();
    run();
    runWithBars();
    bestOfEqualWorth();
    stretch();
    proved();
    strips();
    strip();
    copies();
    rest();
    check();
    clear();
    System.out.println(wrong == 0 ? "all promises hold" : wrong + " answers are not as due");
    if (wrong != 0) {
      System.exit(1);
    }
  }

  private static void due(String call, long got, long want) {
    if (got != want) {
      wrong++;
      System.out.println(promise + ": " + call + " answered " + got + ", due is " + want);
    }
  }

  private static void refused(String call, Class<?> due, IntSupplier made) {
    String got;
    try {
      got = "" + made.getAsInt();
    } catch (RuntimeException e) {
      if (e.getClass() == due) {
        return;
      }
      got = e.getClass().getName();
    }
    wrong++;
    System.out.println(promise + ": " + call + " answered " + got + ", due is " + due.getName());
  }

  private static int plate(SlabPatterns x, int length, int width, int kerf) {
    x.plate(length, width, kerf);
    return 0;
  }

  private static int turn(SlabPatterns x, int piece) {
    x.turn(piece, true);
    return 0;
  }

  private static int rules(SlabPatterns x, int stages, int knives, int a, int b, int least) {
    x.rules(stages, knives, a, b, least);
    return 0;
  }

  private static int proved(SlabPatterns x) {
    return x.proved() ? 1 : 0;
  }

  private static SlabPatterns plated(int length, int width, int kerf) {
    SlabPatterns x = new SlabPatterns();
    x.plate(length, width, kerf);
    return x;
  }

  /** Strip after strip: piece, turned, begin, length, copies. */
  private static void dueStrips(String when, SlabPatterns x, int... rows) {
    due(when + ": strips()", x.strips(), rows.length / 5);
    for (int i = 0; i < rows.length && i / 5 < x.strips(); i++) {
      due(when + ": strip(" + i / 5 + ", " + i % 5 + ")", x.strip(i / 5, i % 5), rows[i]);
    }
  }

  private static void dueNoPattern(String when, SlabPatterns x) {
    refused(when + ": proved()", TURN, () -> proved(x));
    refused(when + ": strips()", TURN, () -> x.strips());
    refused(when + ": strip(0, 0)", TURN, () -> x.strip(0, 0));
    refused(when + ": rest(0)", TURN, () -> x.rest(0));
    refused(when + ": check()", TURN, () -> x.check());
  }

  private static void dueFirstState(String when, SlabPatterns x) {
    dueNoPattern(when, x);
    refused(when + ": copies(0)", INDEX, () -> x.copies(0));
    due(when + ": run(100)", x.run(100), 0);
    due(when + ": rest(0) of a plate of length 1", x.rest(0), 1);
    due(when + ": rest(1) by the least 10", x.rest(1), 0);
    due(when + ": the first piece", x.want(1, 200, 1, 7, 20), 0);
    due(when + ": 1 by 1 holds one copy", x.run(100), 7);
    dueStrips(when, x, 0, 0, 0, 1, 1);
    due(when + ": the second piece", x.want(1, 2, 2, 50, 20), 1);
    due(when + ": across 2 is too wide", x.run(100), 7);
    due(when + ": the third piece", x.want(2, 2, 1, 50, 20), 2);
    due(when + ": length 2 is too long", x.run(100), 7);
    due(when + ": the first bar", x.bar(2, 200), 1);
    x.plate(40, 21, 0);
    due(when + ": 20 knives, two stages, no kerf", x.run(20), 50 * 20);
    dueStrips(when + ": 20 copies in one strip", x, 2, 0, 0, 2, 20);
  }

  private static void newObject() {
    promise = "promise 1";
    dueFirstState("new", new SlabPatterns());
    SlabPatterns x = plated(25, 1, 0);
    x.run(0);
    due("the least at first", x.rest(1), 1);
    x.plate(9, 1, 0);
    x.run(0);
    due("below the least at first", x.rest(1), 0);
    x.plate(10, 1, 0);
    x.run(0);
    due("the least itself is kept", x.rest(1), 1);
  }

  private static void plate() {
    promise = "promise 2";
    SlabPatterns x = plated(30, 10, 0);
    x.want(10, 10, 10, 3, 20);
    due("three strips", x.run(100), 9);
    int[][] bad = {{0, 1, 0}, {201, 1, 0}, {1, 0, 0}, {1, 201, 0}, {1, 1, -1}, {1, 1, 21},
        {Integer.MIN_VALUE, 1, 0}, {Integer.MAX_VALUE, 1, 0}, {1, Integer.MAX_VALUE, 0},
        {1, 1, Integer.MAX_VALUE}};
    for (int[] b : bad) {
      refused("plate " + java.util.Arrays.toString(b), RANGE, () -> plate(x, b[0], b[1], b[2]));
    }
    due("a refused plate forgets nothing", x.strips(), 3);
    due("nor changes it", x.run(100), 9);
    x.plate(30, 10, 1);
    dueNoPattern("after plate", x);
    refused("copies after plate", TURN, () -> x.copies(0));
    due("a kerf takes room", x.run(100), 6);
    x.plate(200, 200, 20);
    due("the largest plate", x.run(100000), 3 * 20);
    due("with 7 copies a strip", x.strip(0, 4), 7);
    x.plate(1, 1, 0);
    due("the smallest plate", x.run(100), 0);
    x.plate(30, 9, 0);
    due("too narrow", x.run(100), 0);
  }

  private static void want() {
    promise = "promise 3";
    SlabPatterns x = plated(10, 10, 0);
    int[][] bad = {{0, 1, 1, 1, 1}, {2, 1, 1, 1, 1}, {1, 201, 1, 1, 1}, {201, 201, 1, 1, 1},
        {1, 0, 1, 1, 1}, {1, 1, 0, 1, 1}, {1, 1, 201, 1, 1}, {1, 1, 1, -1, 1},
        {1, 1, 1, 100001, 1}, {1, 1, 1, 1, -1}, {1, 1, 1, 1, 21},
        {Integer.MIN_VALUE, 1, 1, 1, 1}, {1, Integer.MAX_VALUE, 1, 1, 1}};
    for (int[] b : bad) {
      refused("want " + java.util.Arrays.toString(b), RANGE,
          () -> x.want(b[0], b[1], b[2], b[3], b[4]));
    }
    due("refused pieces do not count", x.want(1, 200, 200, 0, 0), 0);
    due("many 0: none", x.run(100), 0);
    due("second", x.want(200, 200, 1, 100000, 20), 1);
    due("third", x.want(10, 10, 10, 100000, 1), 2);
    due("the greatest worth", x.run(100), 100000);
    due("a piece more keeps the pattern", x.want(10, 10, 5, 60000, 20), 3);
    due("a piece more keeps the pattern", x.strip(0, 0), 2);
    due("it is there in the next run", x.run(100), 120000);
    due("fifth", x.want(1, 1, 1, 1, 1), 4);
    refused("sixth", MEANING, () -> x.want(1, 1, 1, 1, 1));
    for (int[] b : bad) {
      refused("range ahead of meaning", RANGE, () -> x.want(b[0], b[1], b[2], b[3], b[4]));
    }
    SlabPatterns all = plated(200, 1, 0);
    for (int piece = 0; piece < 5; piece++) {
      due("one of five", all.want(1, 1, 1, 100000, 20), piece);
    }
    due("all copies of all pieces", all.run(100), 10000000);
    due("a hundred strips", all.strips(), 100);
    due("100 nodes are not enough for a proof", proved(all), 0);
    due("the last strip", all.strip(99, 0), 4);
    due("rest of a hundred strips", all.rest(0), 100);
    due("check of a hundred strips", all.check(), 0);
    due("20,000 nodes", all.run(20000), 10000000);
  }

  private static void turn() {
    promise = "promise 4";
    SlabPatterns x = plated(5, 12, 0);
    refused("turn(0)", INDEX, () -> turn(x, 0));
    x.want(3, 4, 5, 6, 20);
    due("not turned at first", x.run(100), 12);
    dueStrips("not turned at first", x, 0, 0, 0, 4, 2);
    x.turn(0, true);
    due("turn keeps the pattern", x.strips(), 1);
    due("turned: its low across", x.run(100), 24);
    dueStrips("turned", x, 0, 1, 0, 5, 4);
    due("both ways are nodes", x.run(1), 12);
    due("both ways are nodes", proved(x), 0);
    due("both ways are nodes", x.run(2), 24);
    due("both ways are nodes", proved(x), 1);
    x.turn(0, true);
    due("once more", x.run(100), 24);
    x.turn(0, false);
    due("no more turned", x.run(100), 12);
    refused("turn(1)", INDEX, () -> turn(x, 1));
    refused("turn(-1)", INDEX, () -> turn(x, -1));
    refused("turn(5)", INDEX, () -> turn(x, 5));
    refused("turn(max)", INDEX, () -> turn(x, Integer.MAX_VALUE));
    refused("turn(min)", INDEX, () -> turn(x, Integer.MIN_VALUE));
    x.turn(0, true);
    x.clear();
    x.plate(5, 12, 0);
    x.want(3, 4, 5, 6, 20);
    due("a new piece is not turned", x.run(100), 12);
  }

  private static void rules() {
    promise = "promise 5";
    SlabPatterns x = plated(50, 50, 0);
    x.want(10, 10, 10, 1, 20);
    due("at first", x.run(10), 20);
    int[][] bad = {{0, 0, 0, 0, 0}, {3, 0, 0, 0, 0}, {1, -1, 0, 0, 0}, {1, 21, 0, 0, 0},
        {1, 0, -1, 0, 0}, {1, 0, 201, 0, 0}, {1, 0, 0, -1, 0}, {1, 0, 0, 201, 0},
        {1, 0, 0, 0, -1}, {1, 0, 0, 0, 201}, {Integer.MIN_VALUE, 0, 0, 0, 0},
        {1, Integer.MAX_VALUE, 0, 0, 0}};
    for (int[] b : bad) {
      refused("rules " + java.util.Arrays.toString(b), RANGE,
          () -> rules(x, b[0], b[1], b[2], b[3], b[4]));
    }
    due("refused rules change nothing", x.run(10), 20);
    x.rules(1, 20, 0, 0, 10);
    due("rules keep the pattern", x.strips(), 4);
    due("one stage: one copy a strip", x.run(10), 5);
    x.rules(1, 0, 0, 0, 10);
    due("one stage needs no knife", x.run(10), 5);
    x.rules(2, 0, 0, 0, 10);
    due("no knives: one copy a strip", x.run(10), 5);
    x.rules(2, 1, 0, 0, 10);
    due("one knife: two copies a strip", x.run(10), 10);
    x.rules(2, 4, 0, 0, 10);
    due("four knives: five copies a strip", x.run(10), 20);
    x.rules(2, 1, 10, 9, 10);
    due("trims take room", x.run(10), 6);
    due("the front trim is the begin", x.strip(0, 2), 10);
    x.rules(2, 1, 10, 10, 10);
    due("trims that leave 30", x.run(10), 6);
    x.rules(2, 1, 10, 11, 10);
    due("trims that leave 29", x.run(10), 4);
    x.rules(2, 20, 200, 200, 200);
    due("trims above the length", x.run(10), 0);
    due("trims above the length: rest", x.rest(0), 0);
    due("least 200", x.rest(1), 0);
    x.rules(1, 20, 50, 0, 0);
    due("a trim as long as the plate", x.run(10), 0);
    due("least 0 keeps a rest of 0", x.rest(1), 1);
    x.plate(10, 9, 0);
    x.rules(1, 20, 0, 0, 0);
    due("one stage: the width must hold it", x.run(10), 0);
  }

  private static void bar() {
    promise = "promise 6";
    SlabPatterns x = plated(30, 10, 0);
    int[][] bad = {{5, 5}, {6, 5}, {-1, 5}, {5, 201}, {201, 202}, {-2, -1},
        {Integer.MIN_VALUE, Integer.MAX_VALUE}, {0, Integer.MAX_VALUE}};
    for (int[] b : bad) {
      refused("bar " + java.util.Arrays.toString(b), RANGE, () -> x.bar(b[0], b[1]));
    }
    x.want(10, 10, 10, 1, 20);
    x.run(10);
    due("first", x.bar(0, 10), 1);
    due("a bar keeps the pattern", x.strips(), 3);
    due("its ends are free", x.run(10), 3);
    due("second", x.bar(10, 20), 2);
    due("the end of two bars is free", x.run(10), 3);
    due("third", x.bar(29, 200), 3);
    due("an end in a bar", x.run(10), 2);
    due("fourth", x.bar(0, 200), 4);
    due("no end is free", x.run(10), 0);
    refused("fifth", MEANING, () -> x.bar(1, 2));
    for (int[] b : bad) {
      refused("range ahead of meaning", RANGE, () -> x.bar(b[0], b[1]));
    }
    x.clear();
    due("first again", x.bar(0, 1), 1);
  }

  private static void run() {
    promise = "promise 7";
    SlabPatterns x = plated(20, 20, 0);
    refused("run(-1)", RANGE, () -> x.run(-1));
    refused("run(100001)", RANGE, () -> x.run(100001));
    refused("run(min)", RANGE, () -> x.run(Integer.MIN_VALUE));
    refused("run(max)", RANGE, () -> x.run(Integer.MAX_VALUE));
    refused("a refused run has no pattern", TURN, () -> x.strips());
    due("nothing wanted", x.run(100000), 0);
    x.want(5, 5, 20, 1, 3);
    x.want(10, 10, 20, 4, 20);
    due("no nodes", x.run(0), 0);
    due("no nodes: no strips", x.strips(), 0);
    due("one node", x.run(1), 1);
    due("two nodes", x.run(2), 2);
    due("three nodes", x.run(3), 3);
    due("four nodes: a third short one leaves no room for a long one", x.run(4), 6);
    dueStrips("four nodes", x, 0, 0, 0, 5, 1, 0, 0, 5, 5, 1, 1, 0, 10, 10, 1);
    due("all", x.run(100), 8);
    dueStrips("all", x, 1, 0, 0, 10, 1, 1, 0, 10, 10, 1);
    refused("run(-1) again", RANGE, () -> x.run(-1));
    due("a refused run keeps the pattern", x.strips(), 2);
    x.plate(100, 32, 2);
    x.want(9, 9, 15, 7, 3);
    due("kerfs between copies, and what is left of its many", x.run(100000), 6 * 4 + 1 + 21);
    due("kerfs lie between strips", x.check(), 0);
    SlabPatterns y = plated(22, 5, 2);
    y.want(10, 10, 5, 1, 20);
    due("a kerf only between two strips", y.run(100), 2);
    dueStrips("a kerf only between two strips", y, 0, 0, 0, 10, 1, 0, 0, 12, 10, 1);
    y.plate(21, 12, 2);
    due("no room for the second; a kerf only between two copies", y.run(100), 2);
    y.plate(10, 11, 2);
    due("no room for the second copy", y.run(100), 1);
    SlabPatterns z = plated(20, 20, 0);
    z.want(5, 5, 5, 1, 6);
    due("as many as are left", z.run(100), 6);
    dueStrips("as many as are left", z, 0, 0, 0, 5, 4, 0, 0, 5, 5, 2);
  }

  private static void runWithBars() {
    promise = "promise 7, bars";
    SlabPatterns x = plated(40, 10, 3);
    x.want(10, 10, 10, 2, 20);
    x.want(7, 7, 10, 1, 20);
    x.bar(12, 14);
    due("a begin at 13 is in the bar", x.run(100), 5);
    dueStrips("a begin at 13 is in the bar", x, 1, 0, 0, 7, 1, 0, 0, 10, 10, 1, 0, 0, 23, 10, 1);
    x.rules(2, 20, 13, 0, 10);
    due("no begin within a bar", x.run(100), 0);
    due("no strip can be tried", proved(x), 1);
    x.rules(2, 20, 14, 0, 10);
    due("a begin at the bar's end", x.run(100), 4);
  }

  private static void bestOfEqualWorth() {
    promise = "the best";
    SlabPatterns x = plated(20, 10, 0);
    x.want(10, 10, 10, 2, 20);
    x.want(20, 20, 10, 4, 20);
    due("as much worth", x.run(100), 4);
    dueStrips("fewer strips", x, 1, 0, 0, 20, 1);
    x.clear();
    x.plate(20, 10, 0);
    x.want(8, 8, 10, 2, 1);
    x.want(7, 7, 10, 2, 1);
    x.want(6, 6, 10, 2, 1);
    due("as much worth and strips", x.run(100), 4);
    dueStrips("the first one", x, 0, 0, 0, 8, 1, 1, 0, 8, 7, 1);
    x.clear();
    x.plate(10, 10, 0);
    x.want(10, 10, 10, 2, 1);
    x.turn(0, true);
    due("turned or not is the same", x.run(100), 2);
    dueStrips("not turned ahead of turned", x, 0, 0, 0, 10, 1);
  }

  private static void stretch() {
    promise = "stretch";
    SlabPatterns x = plated(30, 10, 1);
    x.want(8, 10, 10, 1, 20);
    due("three strips", x.run(100), 3);
    dueStrips("from the first one on", x, 0, 0, 0, 10, 1, 0, 0, 11, 10, 1, 0, 0, 22, 8, 1);
    x.rules(2, 20, 0, 1, 10);
    x.run(100);
    dueStrips("to the trim", x, 0, 0, 0, 10, 1, 0, 0, 11, 9, 1, 0, 0, 21, 8, 1);
    x.rules(2, 20, 0, 0, 10);
    x.plate(30, 10, 2);
    x.bar(8, 10);
    x.run(100);
    dueStrips("past a bar", x, 0, 0, 0, 10, 1, 0, 0, 12, 8, 1, 0, 0, 22, 8, 1);
    x.bar(18, 20);
    x.run(100);
    dueStrips("past two bars", x, 0, 0, 0, 10, 1, 0, 0, 12, 8, 1, 0, 0, 22, 8, 1);
    x.bar(29, 31);
    x.run(100);
    dueStrips("held by bars", x, 0, 0, 0, 8, 1, 0, 0, 10, 8, 1, 0, 0, 20, 9, 1);
    SlabPatterns begins = plated(30, 10, 2);
    begins.want(8, 10, 10, 1, 20);
    begins.bar(11, 13);
    begins.run(100);
    dueStrips("a begin behind it in a bar", begins,
        0, 0, 0, 9, 1, 0, 0, 11, 9, 1, 0, 0, 22, 8, 1);
    SlabPatterns y = plated(40, 10, 0);
    y.want(10, 14, 10, 1, 2);
    y.want(12, 12, 10, 1, 1);
    y.turn(1, true);
    y.bar(32, 35);
    y.run(100);
    dueStrips("those behind move past a bar", y,
        0, 0, 0, 14, 1, 0, 0, 14, 14, 1, 1, 0, 28, 12, 1);
    y.bar(23, 25);
    y.run(100);
    dueStrips("those behind are looked at", y,
        0, 0, 0, 13, 1, 0, 0, 13, 14, 1, 1, 0, 27, 12, 1);
    SlabPatterns z = plated(20, 20, 0);
    z.want(5, 9, 6, 1, 4);
    z.turn(0, true);
    z.run(100);
    dueStrips("turned ones do not grow", z, 0, 1, 0, 6, 4);
  }

  private static void proved() {
    promise = "promise 8";
    SlabPatterns x = plated(10, 10, 0);
    refused("no pattern", TURN, () -> proved(x));
    x.run(0);
    due("nothing to try", proved(x), 1);
    x.want(5, 5, 10, 1, 20);
    due("the latest search", proved(x), 1);
    x.run(0);
    due("a strip untried", proved(x), 0);
    x.run(1);
    due("the second untried", proved(x), 0);
    x.run(2);
    due("nodes used up, nothing untried", proved(x), 1);
    x.rules(2, 20, 6, 0, 0);
    x.run(0);
    due("no room for a strip", proved(x), 1);
    x.rules(2, 20, 0, 0, 0);
    x.want(3, 3, 11, 1, 20);
    x.want(3, 3, 3, 1, 0);
    x.run(2);
    due("too wide or none left is no node", proved(x), 1);
    x.bar(1, 4);
    x.want(3, 3, 3, 1, 1);
    x.run(3);
    due("a strip that ends in the bar is no node", proved(x), 1);
    x.plate(10, 10, 0);
    refused("forgotten", TURN, () -> proved(x));
  }

  private static void strips() {
    promise = "promise 9";
    SlabPatterns x = plated(10, 10, 0);
    refused("no pattern", TURN, () -> x.strips());
    x.run(5);
    due("none", x.strips(), 0);
    x.want(2, 2, 10, 0, 20);
    x.run(50);
    due("no worth: the fewest strips are none", x.strips(), 0);
    x.want(2, 2, 10, 1, 3);
    x.run(100000);
    due("three with worth", x.strips(), 3);
  }

  private static void strip() {
    promise = "promise 10";
    SlabPatterns x = plated(12, 12, 1);
    for (int what : new int[] {-1, 5, Integer.MIN_VALUE, Integer.MAX_VALUE}) {
      refused("index ahead of turn", INDEX, () -> x.strip(0, what));
      refused("index ahead of range", INDEX, () -> x.strip(-1, what));
    }
    refused("turn ahead of range", TURN, () -> x.strip(-1, 0));
    x.want(4, 6, 5, 3, 20);
    x.want(3, 3, 4, 9, 3);
    x.turn(1, true);
    due("the worth", x.run(1000), 27 + 6);
    dueStrips("two strips", x, 0, 0, 0, 6, 2, 1, 1, 7, 4, 3);
    for (int what = 0; what < 5; what++) {
      int w = what;
      refused("below 0", RANGE, () -> x.strip(-1, w));
      refused("not so many", RANGE, () -> x.strip(2, w));
      refused("far away", RANGE, () -> x.strip(Integer.MAX_VALUE, w));
      refused("far below", RANGE, () -> x.strip(Integer.MIN_VALUE, w));
    }
    refused("index ahead of range with a pattern", INDEX, () -> x.strip(2, 5));
  }

  private static void copies() {
    promise = "promise 11";
    SlabPatterns x = plated(12, 12, 0);
    refused("index ahead of turn", INDEX, () -> x.copies(0));
    x.want(4, 4, 4, 5, 8);
    refused("no pattern", TURN, () -> x.copies(0));
    refused("index", INDEX, () -> x.copies(-1));
    refused("index", INDEX, () -> x.copies(1));
    x.want(12, 12, 12, 1, 1);
    x.run(100);
    due("over all strips", x.copies(0), 8);
    due("none of it", x.copies(1), 0);
    x.want(1, 1, 1, 1, 1);
    due("wanted behind the run", x.copies(2), 0);
    refused("index", INDEX, () -> x.copies(3));
    refused("index", INDEX, () -> x.copies(Integer.MAX_VALUE));
    refused("index", INDEX, () -> x.copies(Integer.MIN_VALUE));
  }

  private static void rest() {
    promise = "promise 12";
    SlabPatterns x = plated(50, 10, 2);
    for (int what : new int[] {-1, 2, Integer.MIN_VALUE, Integer.MAX_VALUE}) {
      refused("index ahead of turn", INDEX, () -> x.rest(what));
    }
    refused("no pattern", TURN, () -> x.rest(0));
    refused("no pattern", TURN, () -> x.rest(1));
    x.run(1);
    due("all of it", x.rest(0), 50);
    x.rules(2, 20, 3, 4, 43);
    due("all of it less trims", x.rest(0), 43);
    due("a least is kept", x.rest(1), 1);
    x.rules(2, 20, 3, 4, 44);
    due("below a least is scrap", x.rest(1), 0);
    x.want(10, 10, 10, 1, 2);
    x.run(100);
    due("behind the last strip and one kerf", x.rest(0), 50 - 4 - 3 - 10 - 2 - 10 - 2);
    x.rules(2, 20, 3, 24, 0);
    x.run(100);
    due("one less than the kerf", x.rest(0), 0);
    x.rules(2, 20, 3, 25, 0);
    x.run(100);
    due("nothing below 0", x.rest(0), 0);
    due("least 0", x.rest(1), 1);
    x.rules(2, 20, 3, 22, 2);
    due("as things are told now", x.rest(0), 50 - 22 - 3 - 22 - 2);
    refused("index with a pattern", INDEX, () -> x.rest(2));
  }

  private static void check() {
    promise = "promise 13";
    SlabPatterns x = plated(40, 10, 2);
    refused("no pattern", TURN, () -> x.check());
    x.want(10, 10, 3, 1, 5);
    x.run(0);
    due("no strips", x.check(), 0);
    x.rules(2, 20, 2, 0, 0);
    x.run(1000);
    dueStrips("three strips", x, 0, 0, 2, 10, 2, 0, 0, 14, 10, 2, 0, 0, 26, 10, 1);
    due("right", x.check(), 0);
    x.rules(2, 20, 0, 4, 0);
    due("still within the trims", x.check(), 0);
    x.rules(2, 20, 0, 5, 0);
    due("the last one is beyond the end trim", x.check(), 3);
    x.rules(2, 20, 3, 0, 0);
    due("the first one is beyond the front trim", x.check(), 1);
    x.rules(2, 1, 2, 4, 0);
    due("knives enough", x.check(), 0);
    x.rules(2, 0, 2, 4, 0);
    due("too many across for the knives", x.check(), 1);
    x.rules(1, 20, 2, 4, 0);
    due("too many across for one stage", x.check(), 1);
    x.rules(2, 20, 2, 4, 0);
    due("right again", x.check(), 0);
    x.turn(0, true);
    x.turn(0, false);
    x.bar(26, 36);
    due("at a bar's ends", x.check(), 0);
    x.bar(23, 25);
    due("an end in a bar", x.check(), 2);
    x.bar(13, 15);
    due("a begin in a bar", x.check(), 2);
    x.bar(1, 3);
    due("the first begin in a bar", x.check(), 1);
    SlabPatterns y = plated(20, 10, 0);
    y.want(8, 12, 10, 1, 20);
    y.run(100);
    dueStrips("stretched", y, 0, 0, 0, 12, 1, 0, 0, 12, 8, 1);
    y.bar(11, 13);
    due("counted as stretched", y.check(), 1);
    SlabPatterns z = plated(5, 12, 0);
    z.want(3, 4, 5, 6, 20);
    z.turn(0, true);
    z.run(100);
    z.turn(0, false);
    due("turned across counts its low", z.check(), 0);
    z.rules(2, 2, 0, 0, 0);
    due("four turned ones are too many for two knives", z.check(), 1);
  }

  private static void clear() {
    promise = "promise 14";
    SlabPatterns x = plated(200, 200, 20);
    x.want(5, 9, 3, 70, 20);
    x.want(7, 7, 3, 70, 20);
    x.turn(0, true);
    x.rules(1, 0, 5, 7, 200);
    x.bar(0, 100);
    x.bar(0, 200);
    x.run(1000);
    x.clear();
    dueFirstState("cleared", x);
    x.clear();
    x.clear();
    dueFirstState("cleared twice", x);
  }
}
