import java.util.ArrayList;
import java.util.List;
import java.util.function.Supplier;

/**
 * The states in which a call can be refused. Each makes any number of like objects, so that one
 * that a call was refused to can be held against one that never had the call.
 */
enum State {
  NEW(0, 0, -1), TOLD(2, 1, -1), EMPTY(2, 1, 0), UNPROVED(2, 1, 3), SEARCHED(2, 1, 5000),
  FULL(5, 4, -1), FULL_SEARCHED(5, 4, 5000);

  /** How many pieces and bars there are, and the nodes of the search (below 0: none was). */
  final int pieces;
  final int bars;
  private final int nodes;

  State(int pieces, int bars, int nodes) {
    this.pieces = pieces;
    this.bars = bars;
    this.nodes = nodes;
  }

  boolean hasPattern() {
    return nodes >= 0;
  }

  boolean hasNoPattern() {
    return nodes < 0;
  }

  SlabPatterns make() {
    SlabPatterns x = new SlabPatterns();
    if (this != NEW) {
      x.plate(60, 30, 2);
      x.want(9, 12, 7, 5, 7);
      x.want(14, 15, 12, 9, 3);
      x.turn(1, true);
      x.rules(2, 2, 3, 4, 5);
      x.bar(13, 16);
    }
    if (pieces == 5) {
      x.want(11, 11, 8, 6, 4);
      x.want(8, 10, 9, 4, 0);
      x.want(6, 7, 28, 11, 1);
      x.turn(4, true);
      x.bar(40, 43);
      x.bar(0, 3);
      x.bar(58, 200);
    }
    if (nodes >= 0) {
      x.run(nodes);
    }
    return x;
  }

  private static String answer(Supplier<Object> call) {
    try {
      return "" + call.get();
    } catch (RuntimeException e) {
      return e.getClass().getSimpleName();
    }
  }

  /** All that can be asked without a change. */
  static List<String> look(SlabPatterns x) {
    List<String> told = new ArrayList<>();
    told.add("proved " + answer(x::proved));
    told.add("strips " + answer(x::strips));
    int strips = told.get(1).matches("strips [0-9]+") ? x.strips() : 0;
    for (int k = 0; k <= strips; k++) {
      StringBuilder row = new StringBuilder("strip " + k + ":");
      for (int what = 0; what < 5; what++) {
        int w = what;
        int number = k;
        row.append(' ').append(answer(() -> x.strip(number, w)));
      }
      told.add(row.toString());
    }
    for (int piece = 0; piece <= 5; piece++) {
      int p = piece;
      told.add("copies " + p + " " + answer(() -> x.copies(p)));
    }
    told.add("rest " + answer(() -> x.rest(0)) + " " + answer(() -> x.rest(1)));
    told.add("check " + answer(x::check));
    return told;
  }

  /** All that shows by calls that go on from here: x is used up by it. */
  static List<String> answers(SlabPatterns x) {
    List<String> told = look(x);
    for (int nodes : new int[] {0, 2, 5000}) {
      told.add("run " + answer(() -> x.run(nodes)) + " " + answer(x::proved));
    }
    told.addAll(look(x));
    // Were a piece turned ahead of time, this one would be better turned.
    told.add("want " + answer(() -> x.want(10, 11, 29, 6, 2)));
    told.add("bar " + answer(() -> x.bar(20, 24)));
    told.add("run " + answer(() -> x.run(5000)));
    told.addAll(look(x));
    // Lengths about the least with and without the trims of make().
    for (int length = 9; length <= 12; length++) {
      x.plate(length, 30, 2);
      told.add("run " + answer(() -> x.run(0)) + " rest " + x.rest(0) + " " + x.rest(1));
    }
    x.plate(200, 30, 0);
    told.add("run " + answer(() -> x.run(2000)));
    told.addAll(look(x));
    // Of these each would be better turned, and worse by one stage.
    for (int more = 0; more < 6; more++) {
      told.add("want " + answer(() -> x.want(2, 2, 4, 1, 9)));
      told.add("bar " + answer(() -> x.bar(20, 24)));
    }
    x.plate(40, 30, 0);
    told.add("run " + answer(() -> x.run(2000)));
    told.addAll(look(x));
    x.clear();
    told.addAll(look(x));
    told.add("want " + answer(() -> x.want(1, 1, 1, 3, 20)));
    told.add("run " + answer(() -> x.run(20)));
    told.addAll(look(x));
    return told;
  }
}
