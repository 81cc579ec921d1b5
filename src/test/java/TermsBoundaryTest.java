import java.io.IOException;

/** Each sentence of the document's terms: its boundary cases, on either side of them. */
public final class TermsBoundaryTest {
  private static final int MIN = Integer.MIN_VALUE;
  private static final int MAX = Integer.MAX_VALUE;

  private final Due due = new Due();

  private TermsBoundaryTest() throws IOException {}

  public static void main(String[] args) throws IOException {
    TermsBoundaryTest test = new TermsBoundaryTest();
    test.plateSizes();
    test.kerfs();
    test.trims();
    test.wantedPieces();
    test.turnedPieces();
    test.stageOne();
    test.stageTwo();
    test.oneStage();
    test.knives();
    test.bars();
    test.barsAndStrips();
    test.patterns();
    test.best();
    test.nodes();
    test.proved();
    test.stretch();
    test.stretchAtBars();
    test.rest();
    test.kept();
    test.orderOfRefusals();
    test.due.allTested("Terms");
    test.due.end();
  }

  private void terms(String promise, String words) {
    due.sentence(promise, "Terms", words);
  }

  private static SlabPatterns plated(int length, int width, int kerf) {
    SlabPatterns x = new SlabPatterns();
    x.plate(length, width, kerf);
    return x;
  }

  /** A plate one wide, with pieces one wide, so that only lengths matter. */
  private static SlabPatterns line(int length, int kerf) {
    return plated(length, 1, kerf);
  }

  private static int restOf(SlabPatterns x) {
    x.run(0);
    return x.rest(0);
  }

  private static boolean provedBy(SlabPatterns x, int nodes) {
    x.run(nodes);
    return x.proved();
  }

  private void plateSizes() {
    terms("Promise 2", "A PLATE has a LENGTH and a WIDTH (1 .. 200 each");
    for (int size : new int[] {0, 201, -1, MIN, MAX}) {
      due.refused("length " + size, Due.RANGE, () -> plated(size, 1, 0));
      due.refused("width " + size, Due.RANGE, () -> plated(1, size, 0));
    }
    for (int size : new int[] {1, 2, 199, 200}) {
      due.is("length " + size, restOf(plated(size, 1, 0)), size);
      SlabPatterns x = plated(1, size, 0);
      x.want(1, 1, size, 3, 2);
      due.is("width " + size + " holds as much", x.run(9), 3);
      if (size < 200) {
        SlabPatterns y = plated(1, size, 0);
        y.want(1, 1, size + 1, 3, 2);
        due.is("width " + size + " holds no more", y.run(9), 0);
      }
    }
    terms("Promise 1", "; 1 and 1 at first)");
    SlabPatterns x = new SlabPatterns();
    due.is("length 1", restOf(x), 1);
    x.want(1, 1, 2, 5, 1);
    x.want(2, 2, 1, 5, 1);
    due.is("nothing wider or longer", x.run(9), 0);
    x.want(1, 1, 1, 5, 1);
    due.is("1 by 1", x.run(9), 5);
  }

  private void kerfs() {
    // That the kerf is 0 at first shows in no answer: a plate of 1 by 1 has room for no kerf.
    terms("Promise 2", ", a KERF (0 .. 20; 0 at first)");
    for (int kerf : new int[] {-1, 21, MIN, MAX}) {
      due.refused("kerf " + kerf, Due.RANGE, () -> plated(1, 1, kerf));
    }
    for (int kerf : new int[] {0, 1, 19, 20}) {
      SlabPatterns x = plated(10 + kerf, 6 + kerf, kerf);
      x.want(5, 5, 3, 1, 20);
      due.is("kerf " + kerf + " by length and width", x.run(9), 4);
      x.plate(9 + kerf, 6 + kerf, kerf);
      due.is("kerf " + kerf + ", a length too short", x.run(9), 2);
      x.plate(10 + kerf, 5 + kerf, kerf);
      due.is("kerf " + kerf + ", a width too small", x.run(9), 2);
      SlabPatterns whole = line(200, kerf);
      whole.want(200, 200, 1, 1, 20);
      due.is("kerf " + kerf + " behind the longest plate", whole.run(9), 1);
      due.is("kerf " + kerf + " behind the longest plate", whole.rest(0), 0);
    }
  }

  private void trims() {
    terms("Promise 5",
        ", TRIMS a and b taken off the length at its begin and its end (0 .. 200; 0 at first).");
    SlabPatterns x = line(200, 0);
    for (int trim : new int[] {-1, 201, MIN, MAX}) {
      due.refused("front trim " + trim, Due.RANGE, () -> x.rules(2, 20, trim, 0, 10));
      due.refused("end trim " + trim, Due.RANGE, () -> x.rules(2, 20, 0, trim, 10));
    }
    due.is("none at first", restOf(x), 200);
    x.want(1, 1, 1, 1, 1);
    due.is("the first strip at first", x.run(9), 1);
    due.is("the first strip at first", x.strip(0, 2), 0);
    for (int trim : new int[] {0, 1, 199, 200}) {
      x.rules(2, 20, trim, 0, 10);
      due.is("front trim " + trim, restOf(x), 200 - trim);
      due.is("front trim " + trim, x.run(9), trim < 200 ? 1 : 0);
      if (trim < 200) {
        due.is("begin behind the front trim", x.strip(0, 2), trim);
      }
      x.rules(2, 20, 0, trim, 10);
      due.is("end trim " + trim, restOf(x), 200 - trim);
      due.is("end trim " + trim, x.run(9), trim < 200 ? 1 : 0);
    }
    x.rules(2, 20, 199, 1, 10);
    due.is("trims that leave nothing", x.run(9), 0);
    x.rules(2, 20, 198, 1, 10);
    due.is("trims that leave 1", x.run(9), 1);
    x.rules(2, 20, 200, 200, 10);
    due.is("both trims at their most", x.run(9), 0);
    due.is("both trims at their most", x.rest(0), 0);
  }

  private void wantedPieces() {
    terms("Promise 3", "WANTED pieces 0, 1, .. (at most 5)");
    SlabPatterns five = line(200, 0);
    for (int piece = 0; piece < 5; piece++) {
      due.is("one more", five.want(20, 20, 1, 1, 2), piece);
    }
    due.refused("the sixth", Due.MEANING, () -> five.want(20, 20, 1, 1, 2));
    due.is("all five are cut", five.run(100), 10);
    terms("Promise 3", "have a length from LOW to HIGH (1 .. 200)");
    for (int size : new int[] {0, 201, -1, MIN, MAX}) {
      due.refused("low " + size, Due.RANGE, () -> line(9, 0).want(size, 200, 1, 1, 1));
      due.refused("high " + size, Due.RANGE, () -> line(9, 0).want(1, size, 1, 1, 1));
      due.refused("both " + size, Due.RANGE, () -> line(9, 0).want(size, size, 1, 1, 1));
    }
    SlabPatterns lengths = line(200, 0);
    due.is("the widest span", lengths.want(1, 200, 1, 7, 1), 0);
    due.is("the widest span", lengths.run(9), 7);
    due.strips("the widest span", lengths, 0, 0, 0, 200, 1);
    due.is("the greatest low", lengths.want(200, 200, 1, 9, 1), 1);
    due.is("the greatest low", lengths.run(9), 9);
    due.is("the smallest high", lengths.want(1, 1, 1, 10, 1), 2);
    due.is("the smallest high", lengths.run(9), 17);
    terms("Promise 3", ", ACROSS (1 .. 200)");
    for (int size : new int[] {0, 201, -1, MIN, MAX}) {
      due.refused("across " + size, Due.RANGE, () -> line(9, 0).want(1, 1, size, 1, 1));
    }
    SlabPatterns acrosses = plated(1, 200, 0);
    due.is("the greatest across", acrosses.want(1, 1, 200, 3, 20), 0);
    due.is("the greatest across", acrosses.run(9), 3);
    due.is("the smallest across", acrosses.want(1, 1, 1, 1, 20), 1);
    due.is("the smallest across", acrosses.run(9), 20);
    terms("Promise 3", ", a WORTH (0 .. 100,000)");
    for (int worth : new int[] {-1, 100001, MIN, MAX}) {
      due.refused("worth " + worth, Due.RANGE, () -> line(9, 0).want(1, 1, 1, worth, 1));
    }
    for (int worth : new int[] {0, 1, 99999, 100000}) {
      SlabPatterns x = line(1, 0);
      due.is("worth " + worth, x.want(1, 1, 1, worth, 1), 0);
      due.is("worth " + worth, x.run(9), worth);
      due.is("no worth, no strip", x.strips(), worth > 0 ? 1 : 0);
    }
    terms("Promise 3", ", at most so MANY of it (0 .. 20)");
    for (int many : new int[] {-1, 21, MIN, MAX}) {
      due.refused("many " + many, Due.RANGE, () -> line(9, 0).want(1, 1, 1, 1, many));
    }
    for (int many : new int[] {0, 1, 19, 20}) {
      SlabPatterns x = line(200, 0);
      due.is("many " + many, x.want(1, 1, 1, 3, many), 0);
      due.is("many " + many, x.run(99), 3 * many);
      due.is("many " + many, x.strips(), many);
      due.is("many " + many, x.copies(0), many);
    }
    SlabPatterns most = line(100, 0);
    for (int piece = 0; piece < 5; piece++) {
      most.want(1, 1, 1, 100000, 20);
    }
    due.is("all that can be wanted", most.run(100), 10000000);
    due.is("all that can be wanted", most.strips(), 100);
    due.is("the last of all strips", most.strip(99, 0), 4);
    due.refused("no strip behind it", Due.RANGE, () -> most.strip(100, 0));
    // Two copies turned are one strip less than two that are not: the search must come back.
    SlabPatterns back = plated(200, 2, 0);
    for (int piece = 0; piece < 5; piece++) {
      back.want(1, 1, 2, 100000, 20);
      back.turn(piece, true);
    }
    for (int nodes = 100; nodes <= 102; nodes++) {
      due.is("all that can be wanted by " + nodes, back.run(nodes), 10000000);
      due.is("all that can be wanted by " + nodes, back.strips(), nodes < 102 ? 100 : 99);
    }
    due.is("the last of 99 is turned", back.strip(98, 1), 1);
    due.is("the last of 99 has two copies", back.strip(98, 4), 2);
  }

  private void turnedPieces() {
    terms("Promise 4", "; they may be TURNED (not at first): length and across change places.");
    SlabPatterns x = plated(5, 6, 0);
    x.want(3, 4, 5, 1, 20);
    due.is("not at first", x.run(9), 1);
    due.is("not at first", x.strip(0, 1), 0);
    x.turn(0, true);
    due.is("its low across: two copies", x.run(9), 2);
    due.strips("as long as its across", x, 0, 1, 0, 5, 2);
    x.plate(5, 5, 0);
    due.is("one copy turned is no better", x.run(9), 1);
    due.is("one copy turned is no better", x.strip(0, 1), 0);
    x.plate(4, 6, 0);
    due.is("too short for its across", x.run(9), 1);
    due.is("too short for its across", x.strip(0, 1), 0);
    x.plate(5, 4, 0);
    due.is("too narrow for its across, not turned", x.run(9), 1);
    due.strips("too narrow for its across, not turned", x, 0, 1, 0, 5, 1);
    x.plate(5, 2, 0);
    due.is("too narrow for its low, turned", x.run(9), 0);
  }

  private void stageOne() {
    terms("Promise 7", "STAGE 1: the plate's length (without trims) is cut into STRIPS");
    SlabPatterns x = line(30, 0);
    x.want(10, 10, 1, 1, 20);
    due.is("no trims", x.run(9), 3);
    x.rules(2, 20, 4, 6, 10);
    due.is("20 without trims", x.run(9), 2);
    due.strips("20 without trims", x, 0, 0, 4, 10, 1, 0, 0, 14, 10, 1);
    x.rules(2, 20, 5, 6, 10);
    due.is("19 without trims", x.run(9), 1);
    x.rules(2, 20, 4, 7, 10);
    due.is("19 without trims", x.run(9), 1);
    terms("Promise 7", ", each of a wanted piece (turned or not), as long as its low");
    SlabPatterns low = line(10, 0);
    low.want(5, 200, 1, 1, 20);
    due.is("twice its low", low.run(9), 2);
    low.plate(9, 1, 0);
    due.is("below twice its low", low.run(9), 1);
    low.plate(5, 1, 0);
    due.is("its low", low.run(9), 1);
    low.plate(4, 1, 0);
    due.is("below its low", low.run(9), 0);
    low.plate(4, 5, 0);
    due.is("below its low, turning is not told", low.run(9), 0);
    low.turn(0, true);
    due.is("below its low, turned", low.run(9), 4);
    terms("Promise 7", "; a kerf lies between two strips.");
    SlabPatterns kerf = line(23, 3);
    kerf.want(10, 10, 1, 1, 20);
    due.is("two strips and a kerf", kerf.run(9), 2);
    due.strips("two strips and a kerf", kerf, 0, 0, 0, 10, 1, 0, 0, 13, 10, 1);
    kerf.plate(22, 1, 3);
    due.is("the kerf has no room", kerf.run(9), 1);
    kerf.plate(10, 1, 3);
    due.is("no kerf ahead of the first or behind the last", kerf.run(9), 1);
  }

  private void stageTwo() {
    terms("Promise 7", "STAGE 2 (when there are two stages; at first)");
    SlabPatterns x = plated(10, 20, 0);
    x.want(10, 10, 10, 1, 20);
    due.is("at first", x.run(9), 2);
    x.rules(1, 20, 0, 0, 10);
    due.is("one stage", x.run(9), 1);
    x.rules(2, 20, 0, 0, 10);
    due.is("two stages", x.run(9), 2);
    terms("Promise 7", "cuts each strip across into copies of its piece, one beside the other"
        + " with kerfs between, as many as the width holds");
    x.plate(10, 34, 2);
    due.is("three copies and two kerfs", x.run(9), 3);
    x.plate(10, 33, 2);
    due.is("one narrower", x.run(9), 2);
    x.plate(10, 10, 2);
    due.is("one copy and no kerf", x.run(9), 1);
    x.plate(10, 9, 2);
    due.is("too narrow for a copy", x.run(9), 0);
    terms("Promise 7", "and as are left of its many");
    SlabPatterns left = plated(10, 3, 0);
    left.want(2, 2, 1, 1, 7);
    due.is("7 of them", left.run(99), 7);
    due.strips("3, 3 and the one that is left", left,
        0, 0, 0, 2, 3, 0, 0, 2, 2, 3, 0, 0, 4, 2, 1);
    SlabPatterns even = plated(10, 3, 0);
    even.want(2, 2, 1, 1, 6);
    due.is("6 of them", even.run(99), 6);
    due.strips("none is left for a third", even, 0, 0, 0, 2, 3, 0, 0, 2, 2, 3);
    due.is("none left is no node", provedBy(even, 2), true);
    due.is("one more strip is", provedBy(left, 2), false);
  }

  private void oneStage() {
    terms("Promise 7",
        "; with one stage each strip has one copy (the strip's width must hold it).");
    SlabPatterns x = plated(2, 200, 0);
    x.rules(1, 20, 0, 0, 10);
    x.want(1, 1, 100, 1, 20);
    due.is("one copy a strip", x.run(9), 2);
    due.strips("one copy a strip", x, 0, 0, 0, 1, 1, 0, 0, 1, 1, 1);
    x.plate(2, 100, 0);
    due.is("the width holds it", x.run(9), 2);
    x.plate(2, 99, 0);
    due.is("the width does not", x.run(9), 0);
    due.is("that is no node", provedBy(x, 0), true);
    x.turn(0, true);
    x.plate(100, 1, 0);
    due.is("turned: the width holds its low", x.run(9), 1);
    due.strips("turned", x, 0, 1, 0, 100, 1);
  }

  private void knives() {
    terms("Promise 5",
        "KNIVES (0 .. 20; 20 at first) are the most copies of a strip less one.");
    SlabPatterns x = plated(1, 200, 0);
    for (int knives : new int[] {-1, 21, MIN, MAX}) {
      due.refused("knives " + knives, Due.RANGE, () -> x.rules(2, knives, 0, 0, 10));
    }
    x.want(1, 1, 1, 1, 20);
    due.is("20 copies at first", x.run(9), 20);
    for (int knives : new int[] {0, 1, 18, 19, 20}) {
      x.rules(2, knives, 0, 0, 10);
      due.is("knives " + knives, x.run(9), Math.min(20, knives + 1));
      due.is("knives " + knives, x.strip(0, 4), Math.min(20, knives + 1));
    }
    x.rules(1, 0, 0, 0, 10);
    due.is("one stage and no knives", x.run(9), 1);
    x.plate(2, 4, 0);
    x.rules(2, 3, 0, 0, 10);
    due.is("the width and the knives hold as many", x.run(9), 8);
    x.rules(2, 4, 0, 0, 10);
    due.is("the width holds less than the knives", x.run(9), 8);
    x.rules(2, 2, 0, 0, 10);
    due.is("the knives hold less than the width", x.run(9), 6);
  }

  private void bars() {
    terms("Promise 6", "A BAR is a stretch of the plate's length"
        + " (from one place to another one; 0 .. 200; at most 4)");
    SlabPatterns x = line(200, 0);
    for (int place : new int[] {-1, 201, MIN, MAX}) {
      due.refused("from " + place, Due.RANGE, () -> x.bar(place, 200));
      due.refused("to " + place, Due.RANGE, () -> x.bar(0, place));
      due.refused("both " + place, Due.RANGE, () -> x.bar(place, place));
    }
    for (int place : new int[] {0, 1, 100, 199, 200}) {
      due.refused("from and to " + place, Due.RANGE, () -> x.bar(place, place));
    }
    due.refused("backward", Due.RANGE, () -> x.bar(200, 0));
    due.refused("backward by one", Due.RANGE, () -> x.bar(100, 99));
    due.refused("from the last place", Due.RANGE, () -> x.bar(200, 201));
    due.refused("to the first place", Due.RANGE, () -> x.bar(-1, 0));
    due.is("the first two places", x.bar(0, 1), 1);
    due.is("the last two places", x.bar(199, 200), 2);
    due.is("the same once more", x.bar(199, 200), 3);
    x.want(1, 1, 1, 1, 1);
    due.is("no place lies within these", x.run(9), 1);
    due.is("the whole length", x.bar(0, 200), 4);
    due.is("all but its ends lie within it", x.run(9), 0);
    x.want(200, 200, 1, 1, 1);
    due.is("its ends do not", x.run(9), 1);
    due.refused("the fifth", Due.MEANING, () -> x.bar(0, 1));
    SlabPatterns beyond = line(5, 0);
    due.is("a bar may lie beyond the plate", beyond.bar(6, 200), 1);
  }

  private void barsAndStrips() {
    terms("Promise 6", ": no strip begins or ends within it (at its ends it may).");
    for (int begin = 49; begin <= 54; begin++) {
      SlabPatterns x = line(200, 0);
      x.want(100, 100, 1, 1, 1);
      x.rules(2, 20, begin, 0, 10);
      x.bar(50, 53);
      due.is("a begin at " + begin, x.run(9), begin == 51 || begin == 52 ? 0 : 1);
    }
    for (int end = 49; end <= 54; end++) {
      SlabPatterns x = line(200, 0);
      x.want(end, end, 1, 1, 1);
      x.bar(50, 53);
      due.is("an end at " + end, x.run(9), end == 51 || end == 52 ? 0 : 1);
    }
    for (int place : new int[] {1, 199}) {
      SlabPatterns edge = line(200, 0);
      edge.want(place, place, 1, 1, 1);
      due.is("an end at " + place, edge.run(9), 1);
      edge.bar(place - 1, place + 1);
      due.is("an end within a bar at " + place, edge.run(9), 0);
      SlabPatterns front = line(200, 0);
      front.want(1, 1, 1, 1, 1);
      front.rules(2, 20, place, 0, 10);
      due.is("a begin at " + place, front.run(9), 1);
      front.bar(place - 1, place + 1);
      due.is("a begin within a bar at " + place, front.run(9), 0);
    }
    SlabPatterns over = line(200, 0);
    over.want(200, 200, 1, 1, 1);
    over.bar(1, 199);
    due.is("a bar may lie within a strip", over.run(9), 1);
    SlabPatterns second = line(200, 2);
    second.want(10, 10, 1, 1, 2);
    second.bar(11, 13);
    due.is("the second one begins at 12", second.run(9), 1);
    second.bar(9, 11);
    due.is("the first one ends at 10", second.run(9), 0);
    SlabPatterns kerf = line(200, 4);
    kerf.want(10, 10, 1, 1, 2);
    kerf.bar(10, 14);
    due.is("a bar as long as the kerf", kerf.run(9), 2);
    SlabPatterns joined = line(20, 0);
    joined.want(10, 10, 1, 1, 2);
    joined.bar(0, 10);
    joined.bar(10, 20);
    due.is("where two bars meet", joined.run(9), 2);
    joined.bar(9, 11);
    due.is("the third lies over it", joined.run(9), 0);
    terms("Promise 6", "Places are counted from the plate's begin, trims with them.");
    SlabPatterns trimmed = line(30, 0);
    trimmed.want(10, 10, 1, 1, 1);
    trimmed.rules(2, 20, 7, 0, 10);
    trimmed.bar(9, 11);
    due.is("an end at 17, not at 10", trimmed.run(9), 1);
    trimmed.bar(16, 18);
    due.is("an end at 17 within it", trimmed.run(9), 0);
    SlabPatterns begin = line(30, 0);
    begin.want(10, 10, 1, 1, 1);
    begin.bar(0, 8);
    begin.rules(2, 20, 7, 0, 10);
    due.is("a begin at 7, not at 0", begin.run(9), 0);
    begin.rules(2, 20, 8, 0, 10);
    due.is("a begin at 8", begin.run(9), 1);
    due.is("its place", begin.strip(0, 2), 8);
  }

  private void patterns() {
    terms("Promise 7",
        "A PATTERN is a row of strips from the front trim on, each with one copy at least.");
    SlabPatterns x = line(30, 1);
    x.want(5, 5, 1, 0, 0);
    x.want(5, 5, 2, 9, 20);
    due.is("none of many 0, none that is too wide", x.run(99), 0);
    due.strips("an empty row", x);
    due.is("no nodes", provedBy(x, 0), true);
    x.want(5, 5, 1, 2, 20);
    x.rules(2, 20, 17, 0, 10);
    due.is("two strips behind the front trim", x.run(99), 4);
    due.strips("no kerf ahead of the first", x, 2, 0, 17, 5, 1, 2, 0, 23, 5, 1);
    terms("Promise 7", "ITS WORTH is that of all copies.");
    SlabPatterns all = plated(10, 3, 0);
    all.want(5, 5, 1, 2, 20);
    due.is("two strips of three copies", all.run(99), 12);
    SlabPatterns left = plated(10, 3, 0);
    left.want(5, 5, 1, 2, 4);
    due.is("a strip of three copies and one of one", left.run(99), 8);
  }

  private void best() {
    terms("Promise 7", "THE BEST has the greatest worth");
    SlabPatterns worth = line(20, 0);
    worth.want(20, 20, 1, 7, 1);
    worth.want(10, 10, 1, 4, 2);
    due.is("8 by two strips, 7 by one", worth.run(99), 8);
    due.is("two strips", worth.strips(), 2);
    terms("Promise 7", "; of these the fewest strips");
    SlabPatterns few = line(20, 0);
    few.want(10, 10, 1, 4, 2);
    few.want(20, 20, 1, 8, 1);
    due.is("8 either way", few.run(99), 8);
    due.strips("the later one with fewer strips", few, 1, 0, 0, 20, 1);
    SlabPatterns idle = line(20, 0);
    idle.want(5, 5, 1, 0, 20);
    due.is("no worth", idle.run(99), 0);
    due.strips("the fewest are none", idle);
    terms("Promise 7", "; of these the first one"
        + " (strip by strip by wanted pieces, not turned ahead of turned).");
    SlabPatterns first = line(10, 0);
    first.want(3, 3, 1, 2, 1);
    first.want(4, 4, 1, 3, 1);
    first.want(5, 5, 1, 3, 1);
    first.want(6, 6, 1, 4, 1);
    due.is("4 with 6, in either order", first.run(999), 7);
    due.strips("1 ahead of 3", first, 1, 0, 0, 4, 1, 3, 0, 4, 6, 1);
    SlabPatterns turned = plated(6, 6, 0);
    turned.want(3, 3, 6, 1, 2);
    turned.turn(0, true);
    due.is("as much turned", turned.run(99), 2);
    due.strips("fewer strips turned", turned, 0, 1, 0, 6, 2);
    SlabPatterns square = plated(6, 6, 0);
    square.want(6, 6, 6, 1, 1);
    square.turn(0, true);
    due.is("as many strips and as much", square.run(99), 1);
    due.strips("not turned ahead of turned", square, 0, 0, 0, 6, 1);
    SlabPatterns ahead = line(6, 0);
    ahead.want(1, 1, 6, 1, 1);
    ahead.want(6, 6, 1, 1, 1);
    ahead.turn(0, true);
    due.is("a piece turned or the next one not", ahead.run(99), 1);
    due.strips("pieces count ahead of turning", ahead, 0, 1, 0, 6, 1);
  }

  private void nodes() {
    terms("Promise 7", "THE SEARCH goes on from the front by wanted pieces, not turned, then"
        + " turned, each one strip further;");
    // Two copies of each as it is, three turned, and no room behind any of them.
    SlabPatterns order = plated(6, 12, 0);
    int[] pieceWorths = {1, 2, 4, 7, 11};
    for (int piece = 0; piece < 5; piece++) {
      order.want(4, 4, 6, pieceWorths[piece], 20);
      order.turn(piece, true);
    }
    int[] worths = {0, 2, 3, 4, 6, 8, 12, 14, 21, 22, 33, 33};
    for (int nodes = 0; nodes < worths.length; nodes++) {
      due.is("0, 0 turned, 1, 1 turned, .. by " + nodes, order.run(nodes), worths[nodes]);
      due.is("all ten are tried by " + nodes, order.proved(), nodes >= 10);
    }
    // Turned it is as it was, but the two are two strips to try.
    SlabPatterns square = plated(6, 6, 0);
    square.want(6, 6, 6, 1, 1);
    due.is("a square not to be turned, no nodes", provedBy(square, 0), false);
    due.is("a square not to be turned, one node", provedBy(square, 1), true);
    square.turn(0, true);
    due.is("a square, one node", provedBy(square, 1), false);
    due.is("a square, two nodes", provedBy(square, 2), true);
    SlabPatterns squares = plated(12, 6, 0);
    squares.want(6, 6, 6, 1, 2);
    squares.turn(0, true);
    due.is("two squares, five nodes of six", provedBy(squares, 5), false);
    due.is("two squares, six nodes", provedBy(squares, 6), true);
    SlabPatterns further = line(3, 0);
    further.want(1, 1, 1, 1, 20);
    further.want(3, 3, 1, 10, 20);
    worths = new int[] {0, 1, 2, 3, 10, 10};
    for (int nodes = 0; nodes < worths.length; nodes++) {
      due.is("0, 0 0, 0 0 0, 1 by " + nodes, further.run(nodes), worths[nodes]);
    }
    terms("Promise 7", "each strip that is tried"
        + " (one that can be: with room, off bars, a copy at least) is a NODE");
    SlabPatterns room = line(10, 0);
    room.want(11, 11, 1, 1, 1);
    room.want(10, 10, 1, 1, 1);
    due.is("without room: no node", room.run(1), 1);
    SlabPatterns off = line(10, 0);
    off.want(5, 5, 1, 1, 1);
    off.want(10, 10, 1, 1, 1);
    off.bar(4, 6);
    due.is("in a bar: no node", off.run(1), 1);
    due.is("in a bar: no node", off.strip(0, 0), 1);
    SlabPatterns copy = line(10, 0);
    copy.want(5, 5, 1, 1, 0);
    copy.want(5, 5, 2, 1, 1);
    copy.want(10, 10, 1, 1, 1);
    due.is("no copy: no node", copy.run(1), 1);
    due.is("no copy: no node", copy.strip(0, 0), 2);
    SlabPatterns tried = line(10, 0);
    tried.want(1, 1, 1, 0, 1);
    tried.want(10, 10, 1, 1, 1);
    due.is("no worth is a node", tried.run(1), 0);
    due.is("no worth is a node", tried.run(2), 1);
    terms("Promise 7", "; no strip is tried when nodes are used up.");
    SlabPatterns up = line(3, 0);
    up.want(1, 1, 1, 1, 20);
    for (int nodes = 0; nodes <= 4; nodes++) {
      due.is("with " + nodes, up.run(nodes), Math.min(nodes, 3));
      due.is("with " + nodes, up.strips(), Math.min(nodes, 3));
    }
  }

  private void proved() {
    terms("Promise 8", "It is PROVED when no strip was left untried for that.");
    SlabPatterns x = line(2, 0);
    due.is("nothing wanted, no nodes", provedBy(x, 0), true);
    x.want(3, 3, 1, 1, 1);
    due.is("nothing can be tried, no nodes", provedBy(x, 0), true);
    x.want(1, 1, 1, 1, 2);
    due.is("a strip, no nodes", provedBy(x, 0), false);
    due.is("two strips, one node", provedBy(x, 1), false);
    due.is("two strips, two nodes", provedBy(x, 2), true);
    due.is("two strips, three nodes", provedBy(x, 3), true);
    x.want(1, 1, 1, 0, 1);
    // 1, 1 1, 1 2, 2, 2 1
    due.is("five strips, four nodes", provedBy(x, 4), false);
    due.is("five strips, five nodes", provedBy(x, 5), true);
    due.is("proved once more", provedBy(x, 100000), true);
    due.is("and no more", provedBy(x, 0), false);
  }

  private void stretch() {
    terms("Promise 7", "Then lengths STRETCH: strips from the first one on grow to their"
        + " piece's high");
    SlabPatterns x = line(30, 0);
    x.want(8, 10, 1, 1, 2);
    x.run(9);
    due.strips("to the high", x, 0, 0, 0, 10, 1, 0, 0, 10, 10, 1);
    x.plate(20, 1, 0);
    x.run(9);
    due.strips("just to the high", x, 0, 0, 0, 10, 1, 0, 0, 10, 10, 1);
    x.plate(19, 1, 0);
    x.run(9);
    due.strips("the first one first", x, 0, 0, 0, 10, 1, 0, 0, 10, 9, 1);
    x.plate(17, 1, 0);
    x.run(9);
    due.strips("the first one alone", x, 0, 0, 0, 9, 1, 0, 0, 9, 8, 1);
    x.plate(16, 1, 0);
    x.run(9);
    due.strips("no room to grow", x, 0, 0, 0, 8, 1, 0, 0, 8, 8, 1);
    SlabPatterns none = line(30, 0);
    none.want(8, 8, 1, 1, 1);
    none.run(9);
    due.strips("low and high are one", none, 0, 0, 0, 8, 1);
    none.run(0);
    due.strips("no strip to grow", none);
    terms("Promise 7", "(turned ones do not)");
    SlabPatterns turned = plated(30, 5, 0);
    turned.want(5, 9, 6, 1, 1);
    turned.turn(0, true);
    turned.run(9);
    due.strips("its across, neither more nor its high", turned, 0, 1, 0, 6, 1);
    terms("Promise 7", ", as far as the plate's end (with its trim)");
    SlabPatterns end = line(12, 0);
    end.want(8, 12, 1, 1, 1);
    end.run(9);
    due.strips("to the plate's end", end, 0, 0, 0, 12, 1);
    end.rules(2, 20, 0, 1, 10);
    end.run(9);
    due.strips("to the end trim", end, 0, 0, 0, 11, 1);
    end.rules(2, 20, 0, 4, 10);
    end.run(9);
    due.strips("at the end trim", end, 0, 0, 0, 8, 1);
    end.rules(2, 20, 3, 0, 10);
    end.run(9);
    due.strips("behind the front trim", end, 0, 0, 3, 9, 1);
    end.rules(2, 20, 0, 0, 10);
    end.plate(12, 1, 5);
    end.run(9);
    due.strips("no kerf behind the last", end, 0, 0, 0, 12, 1);
  }

  private void stretchAtBars() {
    terms("Promise 7", "and bars let (of a strip the longest that leaves no strip's end or begin"
        + " in a bar");
    int[][] bars = {{12, 20, 12}, {11, 14, 14}, {11, 15, 11}, {13, 15, 13}, {10, 15, 10},
        {10, 12, 14}, {14, 15, 14}, {13, 14, 14}};
    for (int[] bar : bars) {
      SlabPatterns x = line(20, 0);
      x.want(10, 14, 1, 1, 1);
      x.bar(bar[0], bar[1]);
      x.run(9);
      due.strips("10 to 14 by bar " + bar[0] + " " + bar[1], x, 0, 0, 0, bar[2], 1);
    }
    SlabPatterns own = line(20, 0);
    own.want(10, 12, 1, 1, 1);
    own.rules(2, 20, 5, 0, 10);
    own.bar(5, 15);
    own.run(9);
    due.strips("its own begin stays", own, 0, 0, 5, 12, 1);
    SlabPatterns begin = line(30, 2);
    begin.want(8, 10, 1, 1, 1);
    begin.want(9, 9, 1, 1, 1);
    begin.bar(11, 13);
    begin.run(9);
    due.strips("not the 10 that begins the next at 12", begin, 0, 0, 0, 9, 1, 1, 0, 11, 9, 1);
    SlabPatterns end = line(30, 2);
    end.want(8, 10, 1, 1, 1);
    end.want(9, 9, 1, 1, 1);
    end.bar(20, 22);
    end.run(9);
    due.strips("the 10 that ends the next at 21 is none", end, 0, 0, 0, 9, 1, 1, 0, 11, 9, 1);
    end.bar(19, 21);
    end.run(9);
    due.strips("nor the 9 that ends it at 20", end, 0, 0, 0, 8, 1, 1, 0, 10, 9, 1);
    terms("Promise 7", "; all behind it move).");
    SlabPatterns behind = line(40, 1);
    behind.want(8, 10, 1, 1, 1);
    behind.want(9, 9, 1, 1, 2);
    behind.run(99);
    due.strips("by two", behind, 0, 0, 0, 10, 1, 1, 0, 11, 9, 1, 1, 0, 21, 9, 1);
    behind.plate(29, 1, 1);
    behind.run(99);
    due.strips("by one", behind, 0, 0, 0, 9, 1, 1, 0, 10, 9, 1, 1, 0, 20, 9, 1);
    behind.plate(28, 1, 1);
    behind.run(99);
    due.strips("by none", behind, 0, 0, 0, 8, 1, 1, 0, 9, 9, 1, 1, 0, 19, 9, 1);
  }

  private void rest() {
    terms("Promise 12",
        "THE REST of a pattern is what is left of the length behind the last strip and one kerf");
    SlabPatterns x = line(30, 5);
    x.want(10, 10, 1, 1, 1);
    x.run(9);
    due.is("30 less 10 less 5", x.rest(0), 15);
    x.rules(2, 20, 2, 3, 10);
    x.run(9);
    due.is("less trims", x.rest(0), 10);
    SlabPatterns grown = line(30, 5);
    grown.want(10, 14, 1, 1, 1);
    grown.run(9);
    due.is("behind the last strip as stretched", grown.rest(0), 11);
    terms("Promise 12", "(nothing below 0; ");
    x.rules(2, 20, 0, 0, 10);
    for (int length = 10; length <= 17; length++) {
      x.plate(length, 1, 5);
      x.run(9);
      due.is("a length of " + length, x.rest(0), Math.max(0, length - 15));
    }
    x.rules(2, 20, 9, 9, 10);
    due.is("trims longer than the plate", restOf(x), 0);
    x.rules(2, 20, 200, 200, 10);
    due.is("trims at their most", restOf(x), 0);
    terms("Promise 12", "all of it without strips)");
    SlabPatterns all = line(200, 20);
    due.is("the greatest rest, without a kerf", restOf(all), 200);
    all.rules(2, 20, 3, 4, 10);
    due.is("all but the trims", restOf(all), 193);
    all.rules(2, 20, 100, 99, 10);
    due.is("trims that leave 1", restOf(all), 1);
    all.rules(2, 20, 100, 100, 10);
    due.is("trims that leave nothing", restOf(all), 0);
  }

  private void kept() {
    terms("Promise 5", "; it is KEPT when it is a LEAST or more (0 .. 200; 10 at first)"
        + ", else it is scrap.");
    SlabPatterns x = line(9, 0);
    for (int least : new int[] {-1, 201, MIN, MAX}) {
      due.refused("least " + least, Due.RANGE, () -> x.rules(2, 20, 0, 0, least));
    }
    x.run(0);
    due.is("9 at first", x.rest(1), 0);
    x.plate(10, 1, 0);
    x.run(0);
    due.is("10 at first", x.rest(1), 1);
    for (int least : new int[] {0, 1, 199, 200}) {
      x.rules(2, 20, 0, 0, least);
      x.plate(Math.max(1, least), 1, 0);
      x.run(0);
      due.is("a rest of the least " + least, x.rest(1), 1);
      x.plate(Math.max(1, least - 1), 1, 0);
      x.run(0);
      due.is("one below the least " + least, x.rest(1), least > 1 ? 0 : 1);
    }
    x.plate(5, 1, 0);
    x.rules(2, 20, 5, 0, 0);
    x.run(0);
    due.is("a rest of 0 and the least 0", x.rest(1), 1);
    x.rules(2, 20, 5, 0, 1);
    due.is("a rest of 0 and the least 1", x.rest(1), 0);
  }

  private void orderOfRefusals() {
    terms("All promises",
        "Refusals, in this order: index (no such number): IndexOutOfBoundsException");
    SlabPatterns x = new SlabPatterns();
    due.refused("no such piece", Due.INDEX, () -> x.turn(0, true));
    for (int what : new int[] {-1, 5}) {
      due.refused("no such what, no pattern", Due.INDEX, () -> x.strip(0, what));
      due.refused("no such what, no pattern, no strip", Due.INDEX, () -> x.strip(-1, what));
    }
    due.refused("no such what, no pattern", Due.INDEX, () -> x.rest(2));
    due.refused("no such what, no pattern", Due.INDEX, () -> x.rest(-1));
    due.refused("no such piece, no pattern", Due.INDEX, () -> x.copies(0));
    due.refused("no such piece, no pattern", Due.INDEX, () -> x.copies(-1));
    x.run(0);
    due.refused("no such what, no strip", Due.INDEX, () -> x.strip(0, 5));
    terms("All promises", "; turn (not now): IllegalStateException");
    SlabPatterns y = new SlabPatterns();
    due.refused("no pattern, no strip", Due.TURN, () -> y.strip(-1, 0));
    due.refused("no pattern, no strip", Due.TURN, () -> y.strip(MAX, 4));
    terms("All promises", "; range: IllegalArgumentException");
    SlabPatterns z = line(200, 0);
    for (int i = 0; i < 5; i++) {
      z.want(1, 1, 1, 1, 1);
    }
    for (int i = 0; i < 4; i++) {
      z.bar(0, 1);
    }
    due.refused("no such low, and five", Due.RANGE, () -> z.want(0, 1, 1, 1, 1));
    due.refused("low above high, and five", Due.RANGE, () -> z.want(2, 1, 1, 1, 1));
    due.refused("no such high, and five", Due.RANGE, () -> z.want(1, 201, 1, 1, 1));
    due.refused("no such across, and five", Due.RANGE, () -> z.want(1, 1, 201, 1, 1));
    due.refused("no such worth, and five", Due.RANGE, () -> z.want(1, 1, 1, 100001, 1));
    due.refused("no such many, and five", Due.RANGE, () -> z.want(1, 1, 1, 1, 21));
    due.refused("no such place, and four", Due.RANGE, () -> z.bar(-1, 1));
    due.refused("no such place, and four", Due.RANGE, () -> z.bar(0, 201));
    due.refused("not behind, and four", Due.RANGE, () -> z.bar(1, 1));
    terms("All promises", "; meaning (no room): UnsupportedOperationException.");
    due.refused("five", Due.MEANING, () -> z.want(1, 1, 1, 1, 1));
    due.refused("four", Due.MEANING, () -> z.bar(0, 1));
  }
}
