import java.io.IOException;
import java.util.EnumMap;
import java.util.List;
import java.util.Map;
import java.util.function.Consumer;
import java.util.function.Predicate;
import java.util.stream.IntStream;

/**
 * Each sentence of the promises: its boundary cases, and for each refused call, in every state in
 * which it is refused, its exception, and that no later call answers otherwise for it.
 */
public final class PromiseBoundaryTest {
  private static final int MIN = Integer.MIN_VALUE;
  private static final int MAX = Integer.MAX_VALUE;

  private final Due due = new Due();
  private final Map<State, List<String>> untouched = new EnumMap<>(State.class);

  private PromiseBoundaryTest() throws IOException {
    for (State state : State.values()) {
      untouched.put(state, State.answers(state.make()));
    }
  }

  public static void main(String[] args) throws IOException {
    PromiseBoundaryTest test = new PromiseBoundaryTest();
    test.newObject();
    test.plate();
    test.want();
    test.turn();
    test.rules();
    test.bar();
    test.run();
    test.proved();
    test.strips();
    test.strip();
    test.copies();
    test.rest();
    test.check();
    test.checkInBars();
    test.clear();
    test.calls();
    test.due.allTested(IntStream.rangeClosed(1, 14).mapToObj(n -> "Promise " + n)
        .toArray(String[]::new));
    test.due.end();
  }

  /** The nearest numbers below least and above most, and the farthest. */
  private static int[] outside(int least, int most) {
    return new int[] {least - 1, most + 1, MIN, MAX, MIN + 1, MAX - 1, -most - 1};
  }

  private void refused(String call, Class<?> kind, Predicate<State> in,
      Consumer<SlabPatterns> made) {
    for (State state : State.values()) {
      if (in.test(state)) {
        SlabPatterns x = state.make();
        List<String> before = State.look(x);
        due.refused(state + ": " + call, kind, () -> made.accept(x));
        due.same(state + ": at once after " + call, State.look(x), before);
        due.refused(state + ": again " + call, kind, () -> made.accept(x));
        due.same(state + ": later after " + call, State.answers(x), untouched.get(state));
      }
    }
  }

  private void refused(String call, Class<?> kind, Consumer<SlabPatterns> made) {
    refused(call, kind, state -> true, made);
  }

  private static SlabPatterns plated(int length, int width, int kerf) {
    SlabPatterns x = new SlabPatterns();
    x.plate(length, width, kerf);
    return x;
  }

  private void isAs(String when, SlabPatterns x, State state) {
    due.same(when, State.answers(x), untouched.get(state));
  }

  private void newObject() {
    due.sentence("Promise 1", "A plate of 1 by 1");
    SlabPatterns x = new SlabPatterns();
    due.is("a row of none", x.run(9), 0);
    due.is("length 1", x.rest(0), 1);
    x.want(2, 2, 1, 9, 1);
    x.want(1, 1, 2, 9, 1);
    due.is("nothing longer or wider", x.run(9), 0);
    x.want(1, 2, 1, 4, 20);
    due.is("1 by 1 alone", x.run(9), 4);
    due.strips("1 by 1 alone", x, 2, 0, 0, 1, 1);
    SlabPatterns told = plated(1, 1, 0);
    told.rules(2, 20, 0, 0, 10);
    isAs("as one that is told what is there at first", told, State.NEW);
    due.sentence("Promise 1", ", nothing wanted");
    SlabPatterns y = new SlabPatterns();
    due.refused("no piece 0", Due.INDEX, () -> y.copies(0));
    due.refused("no piece 0", Due.INDEX, () -> y.turn(0, true));
    due.is("the first one", y.want(1, 1, 1, 1, 1), 0);
    due.sentence("Promise 1", ", no pattern.");
    SlabPatterns z = new SlabPatterns();
    due.refused("proved", Due.TURN, () -> z.proved());
    due.refused("strips", Due.TURN, () -> z.strips());
    due.refused("strip", Due.TURN, () -> z.strip(0, 0));
    due.refused("rest", Due.TURN, () -> z.rest(0));
    due.refused("check", Due.TURN, () -> z.check());
  }

  private void plate() {
    due.sentence("Promise 2", "The plate");
    SlabPatterns x = plated(200, 200, 20);
    x.want(1, 1, 1, 1, 20);
    due.is("the greatest: 10 of 1 with kerfs of 20 across", x.run(2), 20);
    due.strips("the greatest", x, 0, 0, 0, 1, 10, 0, 0, 21, 1, 10);
    due.is("the greatest", x.rest(0), 200 - 22 - 20);
    x.plate(1, 1, 0);
    due.is("the smallest", x.run(2), 1);
    due.is("the smallest", x.rest(0), 0);
    due.sentence("Promise 2", "; the pattern is forgotten.");
    SlabPatterns same = State.SEARCHED.make();
    same.plate(60, 30, 2);
    isAs("the same plate again, and all else stays", same, State.TOLD);
    SlabPatterns empty = State.EMPTY.make();
    empty.plate(60, 30, 2);
    isAs("a pattern without strips", empty, State.TOLD);
    SlabPatterns full = State.FULL_SEARCHED.make();
    full.plate(60, 30, 2);
    isAs("all that is wanted and barred stays", full, State.FULL);
    SlabPatterns none = State.TOLD.make();
    none.plate(60, 30, 2);
    isAs("no pattern to forget", none, State.TOLD);
    due.sentence("Promise 2", "Range: it is not so.");
    for (int bad : outside(1, 200)) {
      refused("plate " + bad + " long", Due.RANGE, y -> y.plate(bad, 50, 9));
      refused("plate " + bad + " wide", Due.RANGE, y -> y.plate(50, bad, 9));
    }
    for (int bad : outside(0, 20)) {
      refused("kerf " + bad, Due.RANGE, y -> y.plate(50, 50, bad));
    }
    refused("nothing is so", Due.RANGE, y -> y.plate(0, 0, -1));
  }

  private void want() {
    due.sentence("Promise 3", "One more wanted piece: its number.");
    SlabPatterns x = plated(10, 10, 0);
    for (int piece = 0; piece < 5; piece++) {
      due.is("the number", x.want(1, 1, 1, 1, piece), piece);
    }
    SlabPatterns searched = State.SEARCHED.make();
    List<String> before = State.look(searched);
    due.is("the next", searched.want(1, 1, 1, 100000, 20), 2);
    due.is("none of it is in the pattern", searched.copies(2), 0);
    List<String> after = State.look(searched);
    before.removeIf(row -> row.startsWith("copies 2"));
    after.removeIf(row -> row.startsWith("copies 2"));
    due.same("the pattern stays", after, before);
    due.sentence("Promise 3", "Range: it is not so");
    for (int bad : outside(1, 200)) {
      refused("low " + bad, Due.RANGE, y -> y.want(bad, 200, 1, 100000, 20));
      refused("high " + bad, Due.RANGE, y -> y.want(1, bad, 1, 100000, 20));
      refused("low and high " + bad, Due.RANGE, y -> y.want(bad, bad, 1, 100000, 20));
      refused("across " + bad, Due.RANGE, y -> y.want(1, 1, bad, 100000, 20));
    }
    for (int bad : outside(0, 100000)) {
      refused("worth " + bad, Due.RANGE, y -> y.want(1, 1, 1, bad, 20));
    }
    for (int bad : outside(0, 20)) {
      refused("many " + bad, Due.RANGE, y -> y.want(1, 1, 1, 100000, bad));
    }
    due.sentence("Promise 3", "(low not above high)");
    refused("low one above high", Due.RANGE, y -> y.want(2, 1, 1, 100000, 20));
    refused("low far above high", Due.RANGE, y -> y.want(200, 1, 1, 100000, 20));
    refused("low one above high", Due.RANGE, y -> y.want(200, 199, 1, 100000, 20));
    due.is("low as high", new SlabPatterns().want(1, 1, 1, 1, 1), 0);
    due.is("low as high", new SlabPatterns().want(200, 200, 1, 1, 1), 0);
    due.is("low one below high", new SlabPatterns().want(199, 200, 1, 1, 1), 0);
    due.sentence("Promise 3", "; meaning: there are 5.");
    refused("the sixth", Due.MEANING, s -> s.pieces == 5, y -> y.want(1, 1, 1, 100000, 20));
    refused("the sixth, of none", Due.MEANING, s -> s.pieces == 5, y -> y.want(1, 1, 1, 0, 0));
    SlabPatterns cleared = State.FULL.make();
    cleared.clear();
    due.is("cleared: room again", cleared.want(1, 1, 1, 1, 1), 0);
  }

  private void turn() {
    due.sentence("Promise 4", "A piece may be turned, or not.");
    SlabPatterns x = plated(6, 2, 0);
    for (int piece = 0; piece < 5; piece++) {
      x.want(1, 1, 6, 10 + piece, 2);
    }
    due.is("none may be turned", x.run(99), 0);
    for (int piece = 0; piece < 5; piece++) {
      x.turn(piece, true);
      due.is("this one may", x.run(99), 2 * (10 + piece));
      due.strips("this one may", x, piece, 1, 0, 6, 2);
      x.turn(piece, true);
      due.is("told twice", x.run(99), 2 * (10 + piece));
      x.turn(piece, false);
      due.strips("the pattern stays", x, piece, 1, 0, 6, 2);
      due.is("the pattern stays right", x.check(), 0);
      due.is("no more", x.run(99), 0);
      x.turn(piece, false);
      due.is("told twice", x.run(99), 0);
    }
    due.sentence("Promise 4", "Index: no such piece.");
    for (int bad : new int[] {-1, 5, 6, MIN, MAX}) {
      refused("turn " + bad, Due.INDEX, y -> y.turn(bad, true));
      refused("turn " + bad, Due.INDEX, y -> y.turn(bad, false));
    }
    for (int piece = 0; piece < 5; piece++) {
      int p = piece;
      refused("turn " + p, Due.INDEX, s -> s.pieces <= p, y -> y.turn(p, true));
    }
  }

  private void rules() {
    due.sentence("Promise 5", "Stages (1 .. 2)");
    SlabPatterns x = plated(40, 40, 0);
    x.want(10, 10, 10, 1, 20);
    for (int bad : outside(1, 2)) {
      due.refused("stages " + bad, Due.RANGE, () -> x.rules(bad, 20, 0, 0, 10));
    }
    x.rules(1, 20, 0, 0, 10);
    due.is("one stage", x.run(9), 4);
    x.rules(2, 20, 0, 0, 10);
    due.is("two stages", x.run(9), 16);
    due.sentence("Promise 5", ", knives, trims, the least rest.");
    x.rules(1, 0, 0, 0, 0);
    due.strips("the pattern stays", x,
        0, 0, 0, 10, 4, 0, 0, 10, 10, 4, 0, 0, 20, 10, 4, 0, 0, 30, 10, 4);
    due.is("all at their least", x.run(9), 4);
    due.is("a rest of 0 by the least 0", x.rest(1), 1);
    x.rules(2, 20, 200, 200, 200);
    due.is("all at their most", x.run(9), 0);
    due.is("all at their most", x.rest(0), 0);
    due.is("all at their most", x.rest(1), 0);
    x.rules(2, 1, 1, 2, 3);
    due.is("all in between", x.run(9), 6);
    due.strips("all in between", x, 0, 0, 1, 10, 2, 0, 0, 11, 10, 2, 0, 0, 21, 10, 2);
    due.is("all in between", x.rest(0), 7);
    due.is("all in between", x.rest(1), 1);
    due.sentence("Promise 5", "Range: they are not so.");
    for (int bad : outside(1, 2)) {
      refused("stages " + bad, Due.RANGE, y -> y.rules(bad, 7, 1, 2, 3));
    }
    for (int bad : outside(0, 20)) {
      refused("knives " + bad, Due.RANGE, y -> y.rules(1, bad, 1, 2, 3));
    }
    for (int bad : outside(0, 200)) {
      refused("trim a " + bad, Due.RANGE, y -> y.rules(1, 7, bad, 2, 3));
      refused("trim b " + bad, Due.RANGE, y -> y.rules(1, 7, 1, bad, 3));
      refused("least " + bad, Due.RANGE, y -> y.rules(1, 7, 1, 2, bad));
    }
  }

  private void bar() {
    due.sentence("Promise 6", "One more bar: how many.");
    SlabPatterns x = plated(10, 10, 0);
    for (int bars = 1; bars <= 4; bars++) {
      due.is("how many", x.bar(0, 200), bars);
    }
    SlabPatterns searched = State.UNPROVED.make();
    List<String> before = State.look(searched);
    due.is("one more", searched.bar(199, 200), 2);
    due.same("the pattern stays", State.look(searched), before);
    due.sentence("Promise 6", "Range: places, or the second one not behind the first");
    for (int bad : outside(0, 200)) {
      refused("from " + bad, Due.RANGE, y -> y.bar(bad, 200));
      refused("to " + bad, Due.RANGE, y -> y.bar(0, bad));
      refused("from and to " + bad, Due.RANGE, y -> y.bar(bad, bad));
    }
    for (int place : new int[] {0, 1, 12, 199, 200}) {
      refused("the same place " + place, Due.RANGE, y -> y.bar(place, place));
    }
    refused("one ahead", Due.RANGE, y -> y.bar(1, 0));
    refused("one ahead", Due.RANGE, y -> y.bar(200, 199));
    refused("far ahead", Due.RANGE, y -> y.bar(200, 0));
    refused("all there is", Due.RANGE, y -> y.bar(MIN, MAX));
    refused("all there is, backward", Due.RANGE, y -> y.bar(MAX, MIN));
    due.is("one behind", new SlabPatterns().bar(0, 1), 1);
    due.is("one behind", new SlabPatterns().bar(199, 200), 1);
    due.is("far behind", new SlabPatterns().bar(0, 200), 1);
    due.sentence("Promise 6", "; meaning: there are 4.");
    refused("the fifth", Due.MEANING, s -> s.bars == 4, y -> y.bar(0, 200));
    refused("the fifth, of no place", Due.MEANING, s -> s.bars == 4, y -> y.bar(0, 1));
    SlabPatterns cleared = State.FULL.make();
    cleared.clear();
    due.is("cleared: room again", cleared.bar(0, 200), 1);
  }

  private void run() {
    due.sentence("Promise 7", "Searches with so many nodes (0 .. 100,000)");
    // Rows of 25, 18 and 14 within 194 are 100,000: each is the end of one node.
    SlabPatterns x = plated(194, 1, 0);
    x.want(25, 25, 1, 1, 20);
    x.want(18, 18, 1, 1, 20);
    x.want(14, 14, 1, 1, 20);
    x.run(100000);
    due.is("the most nodes are enough", x.proved(), true);
    x.run(99999);
    due.is("one less is not", x.proved(), false);
    due.is("one more", x.want(194, 194, 1, 100000, 1), 3);
    due.is("the last one is not tried", x.run(100000), 13);
    due.is("the last one is not tried", x.proved(), false);
    due.is("no nodes", x.run(0), 0);
    due.is("no nodes", x.proved(), false);
    due.is("one node", x.run(1), 1);
    due.is("one node", x.strips(), 1);
    SlabPatterns again = State.UNPROVED.make();
    again.run(5000);
    isAs("a run forgets the one ahead", again, State.SEARCHED);
    again = State.SEARCHED.make();
    again.run(0);
    isAs("a run without nodes too", again, State.EMPTY);
    due.sentence("Promise 7", ": the worth of the best found (0: no strips).");
    SlabPatterns most = plated(200, 1, 0);
    due.is("nothing wanted", most.run(100000), 0);
    due.is("nothing wanted", most.strips(), 0);
    most.want(1, 1, 1, 0, 20);
    due.is("no worth", most.run(100000), 0);
    due.is("no worth", most.strips(), 0);
    most.want(1, 1, 1, 1, 1);
    due.is("the least worth", most.run(100000), 1);
    due.strips("the least worth", most, 1, 0, 0, 1, 1);
    SlabPatterns all = plated(200, 200, 0);
    for (int piece = 0; piece < 5; piece++) {
      all.want(40, 40, 10, 100000, 20);
    }
    due.is("the greatest worth", all.run(100000), 10000000);
    due.is("the greatest worth", all.strips(), 5);
    due.sentence("Promise 7", "Range: nodes.");
    for (int bad : outside(0, 100000)) {
      refused("run " + bad, Due.RANGE, y -> y.run(bad));
    }
  }

  private void proved() {
    due.sentence("Promise 8", "Whether the latest search was proved.");
    SlabPatterns x = plated(2, 1, 0);
    x.run(0);
    due.is("nothing to try", x.proved(), true);
    x.want(1, 1, 1, 1, 2);
    due.is("wanted behind the search", x.proved(), true);
    x.run(1);
    due.is("one strip untried", x.proved(), false);
    x.run(2);
    due.is("the latest", x.proved(), true);
    x.run(0);
    due.is("the latest", x.proved(), false);
    due.refused("a refused run", Due.RANGE, () -> x.run(100001));
    due.is("is no search", x.proved(), false);
    due.sentence("Promise 8", "Turn: there is no pattern.");
    refused("proved", Due.TURN, State::hasNoPattern, y -> y.proved());
  }

  private void strips() {
    due.sentence("Promise 9", "How many strips the pattern has.");
    SlabPatterns x = plated(100, 1, 0);
    x.run(100);
    due.is("none", x.strips(), 0);
    for (int piece = 0; piece < 5; piece++) {
      x.want(1, 1, 1, 1, 20);
    }
    for (int nodes : new int[] {0, 1, 99, 100, 101}) {
      x.run(nodes);
      due.is("by " + nodes, x.strips(), Math.min(nodes, 100));
    }
    due.sentence("Promise 9", "Turn: there is no pattern.");
    refused("strips", Due.TURN, State::hasNoPattern, y -> y.strips());
  }

  private void strip() {
    due.sentence("Promise 10", "Of strip k (0 first) what 0 its piece, 1 whether it is turned"
        + " (1, 0), 2 the place where it begins, 3 its length as stretched, 4 copies.");
    SlabPatterns x = plated(12, 12, 1);
    x.want(4, 6, 5, 3, 20);
    x.want(3, 3, 4, 9, 3);
    x.turn(1, true);
    x.run(1000);
    due.strips("the first and the last", x, 0, 0, 0, 6, 2, 1, 1, 7, 4, 3);
    due.sentence("Promise 10", "Index: no such what");
    for (int what : outside(0, 4)) {
      for (int k : new int[] {0, -1, 100, MIN, MAX}) {
        refused("strip " + k + " what " + what, Due.INDEX, y -> y.strip(k, what));
      }
    }
    due.sentence("Promise 10", "; turn: there is no pattern");
    for (int what = 0; what < 5; what++) {
      int w = what;
      for (int k : new int[] {0, -1, 1, 100, MIN, MAX}) {
        refused("strip " + k + " what " + w, Due.TURN, State::hasNoPattern, y -> y.strip(k, w));
      }
    }
    due.sentence("Promise 10", "; range: it has not so many strips");
    for (int what = 0; what < 5; what++) {
      int w = what;
      refused("behind the last", Due.RANGE, State::hasPattern, y -> y.strip(y.strips(), w));
      for (int k : new int[] {99, 100, 101, MAX}) {
        refused("strip " + k, Due.RANGE, State::hasPattern, y -> y.strip(k, w));
      }
      due.refused("one behind the last of two", Due.RANGE, () -> x.strip(2, w));
    }
    refused("no strip at all", Due.RANGE, s -> s == State.EMPTY, y -> y.strip(0, 0));
    due.sentence("Promise 10", ", or k is below 0.");
    for (int what = 0; what < 5; what++) {
      int w = what;
      refused("strip -1", Due.RANGE, State::hasPattern, y -> y.strip(-1, w));
      refused("strip min", Due.RANGE, State::hasPattern, y -> y.strip(MIN, w));
    }
  }

  private void copies() {
    due.sentence("Promise 11", "Copies of a piece in the pattern.");
    SlabPatterns x = plated(4, 3, 0);
    x.want(1, 1, 2, 1, 4);
    x.want(4, 4, 3, 1, 20);
    x.turn(0, true);
    due.is("all its copies", x.run(999), 4);
    due.strips("turned or not", x, 0, 0, 0, 1, 1, 0, 1, 1, 2, 3);
    due.is("over all strips, turned or not", x.copies(0), 4);
    due.is("none", x.copies(1), 0);
    x.run(0);
    due.is("no strips", x.copies(0), 0);
    SlabPatterns last = plated(200, 1, 0);
    for (int piece = 0; piece < 5; piece++) {
      last.want(1, 1, 1, 1, 5 * piece);
    }
    last.run(1000);
    for (int piece = 0; piece < 5; piece++) {
      due.is("none to 20", last.copies(piece), 5 * piece);
    }
    due.sentence("Promise 11", "Index: no such piece");
    for (int bad : outside(0, 4)) {
      refused("copies " + bad, Due.INDEX, y -> y.copies(bad));
    }
    for (int piece = 0; piece < 5; piece++) {
      int p = piece;
      refused("copies " + p, Due.INDEX, s -> s.pieces <= p, y -> y.copies(p));
    }
    due.sentence("Promise 11", "; turn: there is no pattern.");
    for (int piece = 0; piece < 5; piece++) {
      int p = piece;
      refused("copies " + p, Due.TURN, s -> s.hasNoPattern() && p < s.pieces, y -> y.copies(p));
    }
  }

  private void rest() {
    due.sentence("Promise 12", "The rest: what 0 its length, 1 whether it is kept (1, 0).");
    SlabPatterns x = plated(25, 1, 5);
    x.want(10, 10, 1, 1, 1);
    x.run(9);
    due.is("its length", x.rest(0), 10);
    due.is("the least at first", x.rest(1), 1);
    x.rules(2, 20, 0, 0, 11);
    due.is("below the least told now", x.rest(1), 0);
    x.rules(2, 20, 0, 0, 10);
    x.plate(24, 1, 5);
    x.run(9);
    due.is("its length", x.rest(0), 9);
    due.is("below the least", x.rest(1), 0);
    due.sentence("Promise 12", "Index: no such what");
    for (int what : outside(0, 1)) {
      refused("rest " + what, Due.INDEX, y -> y.rest(what));
    }
    due.sentence("Promise 12", "; turn: there is no pattern.");
    refused("rest 0", Due.TURN, State::hasNoPattern, y -> y.rest(0));
    refused("rest 1", Due.TURN, State::hasNoPattern, y -> y.rest(1));
  }

  /** Three strips of two, two and one copies, from 2 to 12, 14 to 24 and 26 to 36. */
  private static SlabPatterns three() {
    SlabPatterns x = plated(40, 10, 2);
    x.want(10, 10, 3, 1, 5);
    x.rules(2, 20, 2, 0, 0);
    x.run(1000);
    return x;
  }

  private void check() {
    due.sentence("Promise 13", "Counts the pattern again as things are told now: 0 it is right");
    SlabPatterns x = three();
    due.strips("three", x, 0, 0, 2, 10, 2, 0, 0, 14, 10, 2, 0, 0, 26, 10, 1);
    due.is("right", x.check(), 0);
    x.rules(2, 20, 200, 200, 0);
    due.is("not now", x.check(), 1);
    x.rules(2, 20, 2, 0, 0);
    due.is("right again", x.check(), 0);
    x.run(0);
    x.rules(1, 0, 200, 200, 0);
    x.bar(0, 200);
    due.is("without strips nothing is wrong", x.check(), 0);
    due.sentence("Promise 13", ", else 1 and the first strip that is not");
    SlabPatterns first = three();
    first.bar(13, 15);
    first.bar(35, 37);
    due.is("the second and the third are not", first.check(), 2);
    first.rules(2, 0, 2, 0, 0);
    due.is("nor is the first", first.check(), 1);
    first.rules(2, 20, 0, 5, 0);
    due.is("the third one for two causes", first.check(), 2);
    due.sentence("Promise 13", "(beyond the plate, ");
    SlabPatterns beyond = three();
    beyond.rules(2, 20, 2, 4, 0);
    due.is("the last end at the end trim", beyond.check(), 0);
    beyond.rules(2, 20, 2, 5, 0);
    due.is("the last end one beyond", beyond.check(), 3);
    beyond.rules(2, 20, 2, 16, 0);
    due.is("the second end at the end trim", beyond.check(), 3);
    beyond.rules(2, 20, 2, 17, 0);
    due.is("the second end one beyond", beyond.check(), 2);
    beyond.rules(2, 20, 2, 29, 0);
    due.is("all beyond", beyond.check(), 1);
    beyond.rules(2, 20, 0, 4, 0);
    due.is("no front trim", beyond.check(), 0);
    beyond.rules(2, 20, 3, 4, 0);
    due.is("the first begin one ahead of the front trim", beyond.check(), 1);
    // No calls lead to too many copies: a piece's many stays while there is a pattern.
    due.sentence("Promise 13", "too many copies of its piece so far");
    SlabPatterns many = three();
    due.is("as many as are wanted", many.copies(0), 5);
    due.is("as many as are wanted are not too many", many.check(), 0);
    due.sentence("Promise 13", ", too many across).");
    SlabPatterns across = three();
    across.rules(2, 1, 2, 0, 0);
    due.is("a knife for two copies", across.check(), 0);
    across.rules(2, 0, 2, 0, 0);
    due.is("no knife", across.check(), 1);
    across.rules(1, 20, 2, 0, 0);
    due.is("one stage", across.check(), 1);
    SlabPatterns single = plated(30, 5, 0);
    single.want(10, 10, 3, 1, 5);
    single.run(99);
    single.rules(1, 0, 0, 0, 0);
    due.is("one copy each is not too many", single.check(), 0);
    SlabPatterns turned = plated(5, 12, 0);
    turned.want(3, 4, 5, 1, 20);
    turned.turn(0, true);
    turned.run(99);
    due.strips("turned", turned, 0, 1, 0, 5, 4);
    turned.rules(2, 3, 0, 0, 0);
    due.is("four turned ones by three knives", turned.check(), 0);
    turned.rules(2, 2, 0, 0, 0);
    due.is("four turned ones by two knives", turned.check(), 1);
    due.sentence("Promise 13", "Turn: there is no pattern.");
    refused("check", Due.TURN, State::hasNoPattern, y -> y.check());
  }

  private void checkInBars() {
    due.sentence("Promise 13", "in a bar, ");
    int[][] bars = {{0, 2, 0}, {0, 3, 1}, {1, 3, 1}, {2, 12, 0}, {11, 13, 1}, {12, 14, 0},
        {12, 15, 2}, {11, 14, 1}, {14, 24, 0}, {23, 25, 2}, {24, 26, 0}, {24, 27, 3},
        {26, 36, 0}, {35, 37, 3}, {36, 200, 0}, {35, 200, 3}, {3, 11, 0}};
    for (int[] bar : bars) {
      SlabPatterns x = three();
      x.bar(bar[0], bar[1]);
      due.is("bar " + bar[0] + " " + bar[1], x.check(), bar[2]);
    }
    SlabPatterns grown = plated(20, 1, 0);
    grown.want(8, 12, 1, 1, 20);
    grown.run(99);
    due.strips("stretched", grown, 0, 0, 0, 12, 1, 0, 0, 12, 8, 1);
    grown.bar(7, 9);
    due.is("where it ended ahead of stretching", grown.check(), 0);
    grown.bar(11, 13);
    due.is("where it ends", grown.check(), 1);
  }

  private void clear() {
    due.sentence("Promise 14", "Forgets all.");
    for (State state : State.values()) {
      SlabPatterns x = state.make();
      x.clear();
      isAs(state + " cleared", x, State.NEW);
      SlabPatterns y = state.make();
      y.clear();
      y.clear();
      isAs(state + " cleared twice", y, State.NEW);
    }
    int[][] rules = {{1, 20, 0, 0, 10}, {2, 0, 0, 0, 10}, {2, 20, 1, 0, 10}, {2, 20, 0, 1, 10},
        {2, 20, 0, 0, 11}, {2, 20, 0, 0, 9}, {1, 0, 200, 200, 200}};
    for (int[] r : rules) {
      SlabPatterns x = new SlabPatterns();
      x.rules(r[0], r[1], r[2], r[3], r[4]);
      x.clear();
      isAs("rules " + java.util.Arrays.toString(r) + " cleared", x, State.NEW);
    }
    for (int bars = 1; bars <= 4; bars++) {
      SlabPatterns x = State.NEW.make();
      for (int bar = 0; bar < bars; bar++) {
        x.bar(50 * bar, 50 * bar + 50);
      }
      x.clear();
      isAs(bars + " bars cleared", x, State.NEW);
    }
    SlabPatterns turned = new SlabPatterns();
    for (int piece = 0; piece < 5; piece++) {
      turned.want(1, 1, 1, 1, 1);
      turned.turn(piece, true);
    }
    turned.clear();
    isAs("pieces that may be turned cleared", turned, State.NEW);
  }

  private void calls() {
    due.sentence("Promise 7", "What it is",
        "An object is used for at most 512 calls after it has been made");
    SlabPatterns x = plated(10, 1, 0);
    x.want(5, 5, 1, 1, 20);
    for (int call = 3; call <= 512; call++) {
      due.is("call " + call, call % 2 == 0 ? x.strips() : x.run(9), 2);
    }
  }
}
