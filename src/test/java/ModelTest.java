import java.util.ArrayList;
import java.util.List;
import java.util.Random;

/**
 * Long runs of calls, drawn from fixed seeds, on the class and on a plain model of the document
 * that shares nothing with it: the model keeps a list of bars, searches by recursion, and looks at
 * the whole row again for each length that it tries to stretch to.
 */
public final class ModelTest {
  private static final int RUNS = 4000;
  private static final int CALLS = 60;
  /** The document lets an object be used for so many calls; every 20th run has them all. */
  private static final int MOST_CALLS = 512;
  private static final int LONG_EACH = 20;

  private record Piece(int low, int high, int across, int worth, int many) {}

  private record Strip(int piece, boolean turned, int begin, int length, int copies) {
    int end() {
      return begin + length;
    }
  }

  /** The document, told as plainly as it can be. */
  private static final class Model {
    int length = 1;
    int width = 1;
    int kerf = 0;
    int stages = 2;
    int knives = 20;
    int a = 0;
    int b = 0;
    int least = 10;
    final List<Piece> pieces = new ArrayList<>();
    final List<Boolean> may = new ArrayList<>();
    final List<int[]> bars = new ArrayList<>();
    List<Strip> pattern = null;
    List<Strip> best;
    int nodes;
    boolean proved;

    static void range(boolean right) {
      if (!right) {
        throw new IllegalArgumentException();
      }
    }

    static boolean in(int v, int low, int high) {
      return low <= v && v <= high;
    }

    void index(boolean right) {
      if (!right) {
        throw new IndexOutOfBoundsException();
      }
    }

    void room(boolean right) {
      if (!right) {
        throw new UnsupportedOperationException();
      }
    }

    void now() {
      if (pattern == null) {
        throw new IllegalStateException();
      }
    }

    boolean barred(int place) {
      for (int[] bar : bars) {
        if (bar[0] < place && place < bar[1]) {
          return true;
        }
      }
      return false;
    }

    int across(int piece, boolean turned) {
      return turned ? pieces.get(piece).low() : pieces.get(piece).across();
    }

    int fit(int piece, boolean turned) {
      int copies = 0;
      int used = across(piece, turned);
      while (used <= width) {
        copies++;
        used += kerf + across(piece, turned);
      }
      return Math.min(copies, stages == 1 ? 1 : knives + 1);
    }

    int copiesIn(List<Strip> row, int piece) {
      return row.stream().filter(s -> s.piece() == piece).mapToInt(Strip::copies).sum();
    }

    int worth(List<Strip> row) {
      return row.stream().mapToInt(s -> s.copies() * pieces.get(s.piece()).worth()).sum();
    }

    void search(List<Strip> row) {
      if (worth(row) > worth(best) || worth(row) == worth(best) && row.size() < best.size()) {
        best = new ArrayList<>(row);
      }
      for (int piece = 0; piece < pieces.size(); piece++) {
        for (int way = 0; way < 2; way++) {
          if (way == 0 || may.get(piece)) {
            lay(row, piece, way == 1);
          }
        }
      }
    }

    void lay(List<Strip> row, int piece, boolean turned) {
      Piece p = pieces.get(piece);
      int begin = row.isEmpty() ? a : row.get(row.size() - 1).end() + kerf;
      int end = begin + (turned ? p.across() : p.low());
      int copies = Math.min(fit(piece, turned), p.many() - copiesIn(row, piece));
      if (end > length - b || barred(begin) || barred(end) || copies < 1) {
        return;
      }
      if (nodes == 0) {
        proved = false;
        return;
      }
      nodes--;
      row.add(new Strip(piece, turned, begin, end - begin, copies));
      search(row);
      row.remove(row.size() - 1);
    }

    List<Strip> grown(List<Strip> row, int k, int by) {
      List<Strip> result = new ArrayList<>();
      for (int i = 0; i < row.size(); i++) {
        Strip s = row.get(i);
        result.add(new Strip(s.piece(), s.turned(), s.begin() + (i > k ? by : 0),
            s.length() + (i == k ? by : 0), s.copies()));
      }
      return result;
    }

    boolean lies(List<Strip> row) {
      for (Strip s : row) {
        if (s.end() > length - b || barred(s.begin()) || barred(s.end())) {
          return false;
        }
      }
      return true;
    }

    List<Strip> stretched(List<Strip> row) {
      for (int k = 0; k < row.size(); k++) {
        Piece p = pieces.get(row.get(k).piece());
        List<Strip> longest = row;
        for (int by = 1; !row.get(k).turned() && p.low() + by <= p.high(); by++) {
          List<Strip> next = grown(row, k, by);
          if (lies(next)) {
            longest = next;
          }
        }
        row = longest;
      }
      return row;
    }

    long call(int what, int[] v) {
      switch (what) {
        case 0:
          range(in(v[0], 1, 200) && in(v[1], 1, 200) && in(v[2], 0, 20));
          length = v[0];
          width = v[1];
          kerf = v[2];
          pattern = null;
          return 0;
        case 1:
          range(in(v[0], 1, 200) && in(v[1], 1, 200) && v[0] <= v[1] && in(v[2], 1, 200)
              && in(v[3], 0, 100000) && in(v[4], 0, 20));
          room(pieces.size() < 5);
          pieces.add(new Piece(v[0], v[1], v[2], v[3], v[4]));
          may.add(false);
          return pieces.size() - 1;
        case 2:
          index(in(v[0], 0, pieces.size() - 1));
          may.set(v[0], v[1] != 0);
          return 0;
        case 3:
          range(in(v[0], 1, 2) && in(v[1], 0, 20) && in(v[2], 0, 200) && in(v[3], 0, 200)
              && in(v[4], 0, 200));
          stages = v[0];
          knives = v[1];
          a = v[2];
          b = v[3];
          least = v[4];
          return 0;
        case 4:
          range(in(v[0], 0, 200) && in(v[1], 0, 200) && v[0] < v[1]);
          room(bars.size() < 4);
          bars.add(new int[] {v[0], v[1]});
          return bars.size();
        case 5:
          range(in(v[0], 0, 100000));
          nodes = v[0];
          proved = true;
          best = new ArrayList<>();
          search(new ArrayList<>());
          pattern = stretched(best);
          return worth(pattern);
        default:
          return look(what, v);
      }
    }

    long look(int what, int[] v) {
      switch (what) {
        case 6:
          now();
          return proved ? 1 : 0;
        case 7:
          now();
          return pattern.size();
        case 8:
          index(in(v[1], 0, 4));
          now();
          range(in(v[0], 0, pattern.size() - 1));
          Strip s = pattern.get(v[0]);
          return new int[] {s.piece(), s.turned() ? 1 : 0, s.begin(), s.length(), s.copies()}[v[1]];
        case 9:
          index(in(v[0], 0, pieces.size() - 1));
          now();
          return copiesIn(pattern, v[0]);
        case 10:
          index(in(v[0], 0, 1));
          now();
          int from = pattern.isEmpty() ? a : pattern.get(pattern.size() - 1).end() + kerf;
          int rest = Math.max(0, length - b - from);
          return v[0] == 0 ? rest : rest >= least ? 1 : 0;
        default:
          now();
          return check();
      }
    }

    int check() {
      for (int k = 0; k < pattern.size(); k++) {
        Strip s = pattern.get(k);
        if (s.begin() < a || s.end() > length - b || barred(s.begin()) || barred(s.end())
            || copiesIn(pattern.subList(0, k + 1), s.piece()) > pieces.get(s.piece()).many()
            || s.copies() > fit(s.piece(), s.turned())) {
          return k + 1;
        }
      }
      return 0;
    }
  }

  private static long call(SlabPatterns x, int what, int[] v) {
    switch (what) {
      case 0:
        x.plate(v[0], v[1], v[2]);
        return 0;
      case 1:
        return x.want(v[0], v[1], v[2], v[3], v[4]);
      case 2:
        x.turn(v[0], v[1] != 0);
        return 0;
      case 3:
        x.rules(v[0], v[1], v[2], v[3], v[4]);
        return 0;
      case 4:
        return x.bar(v[0], v[1]);
      case 5:
        return x.run(v[0]);
      case 6:
        return x.proved() ? 1 : 0;
      case 7:
        return x.strips();
      case 8:
        return x.strip(v[0], v[1]);
      case 9:
        return x.copies(v[0]);
      case 10:
        return x.rest(v[0]);
      default:
        return x.check();
    }
  }

  private static final String[] NAMES = {"plate", "want", "turn", "rules", "bar", "run", "proved",
      "strips", "strip", "copies", "rest", "check", "clear"};

  private static String answer(SlabPatterns x, Model m, int what, int[] v) {
    try {
      return "" + (x != null ? call(x, what, v) : m.call(what, v));
    } catch (RuntimeException e) {
      return "throws." + e.getClass().getSimpleName();
    }
  }

  private static int near(Random r, int low, int high) {
    return r.nextInt(12) == 0 ? (r.nextBoolean() ? low - 1 : high + 1)
        : low + r.nextInt(high - low + 1);
  }

  private static int[] arguments(Random r, int what, int size) {
    int lengths = Math.max(2, size / 2);
    switch (what) {
      case 0:
        return new int[] {r.nextInt(40) == 0 ? 201 : 1 + r.nextInt(size),
            r.nextInt(40) == 0 ? 0 : 1 + r.nextInt(size),
            r.nextInt(40) == 0 ? 21 : r.nextInt(r.nextBoolean() ? 3 : 21)};
      case 1:
        int low = 1 + r.nextInt(lengths);
        return new int[] {r.nextInt(40) == 0 ? 0 : low,
            Math.min(200, low + r.nextInt(6)) - (r.nextInt(40) == 0 ? 9 : 0),
            r.nextInt(5) == 0 ? low : 1 + r.nextInt(lengths),
            r.nextInt(r.nextBoolean() ? 4 : 100001), near(r, 0, 20)};
      case 2:
        return new int[] {near(r, 0, 4), r.nextInt(3)};
      case 3:
        return new int[] {r.nextInt(30) == 0 ? 3 : r.nextInt(4) == 0 ? 1 : 2, near(r, 0, 20),
            r.nextInt(Math.max(1, size / 4)), r.nextInt(Math.max(1, size / 4)), near(r, 0, 200)};
      case 4:
        int from = r.nextInt(size);
        return new int[] {from, from + r.nextInt(8)};
      case 5:
        return new int[] {r.nextInt(30) == 0 ? -1 : r.nextInt(r.nextBoolean() ? 40 : 1500)};
      case 8:
        return new int[] {near(r, 0, 4), near(r, 0, 4)};
      case 9:
        return new int[] {near(r, 0, 4)};
      default:
        return new int[] {near(r, 0, 1)};
    }
  }

  private static boolean sameRun(int seed) {
    Random r = new Random(seed);
    int size = new int[] {8, 30, 100, 200}[r.nextInt(4)];
    SlabPatterns x = new SlabPatterns();
    Model m = new Model();
    List<String> told = new ArrayList<>();
    boolean isLong = seed % LONG_EACH == 0;
    for (int i = 0; i < (isLong ? MOST_CALLS : CALLS); i++) {
      int what = i == 0 ? 0 : i < 4 ? 1 : i == 4 ? 2 : i == 8 ? 5 : r.nextInt(13);
      if (what == 0 && i > 0 && r.nextInt(3) > 0) {
        what = 5;
      }
      // Rarely, since little is there to be asked behind it.
      if (what == 12 && r.nextInt(8) > 0) {
        what = 11;
      }
      if (what == 12) {
        x.clear();
        m = new Model();
        told.add("clear()");
        continue;
      }
      int[] v = arguments(r, what, size);
      String got = answer(x, null, what, v);
      String due = answer(null, m, what, v);
      told.add(NAMES[what] + java.util.Arrays.toString(v) + " " + got);
      if (!got.equals(due)) {
        System.out.println("seed " + seed + ": " + String.join("; ", told) + ", due is " + due);
        return false;
      }
      if (what == 5 && !isLong && !sameRow(x, m, told, seed)) {
        return false;
      }
    }
    return true;
  }

  private static boolean sameRow(SlabPatterns x, Model m, List<String> told, int seed) {
    for (int what = 6; what <= 11; what++) {
      for (int first = 0; first <= (what == 8 ? m.best == null ? 0 : m.best.size() : 4); first++) {
        for (int second = 0; second < 5; second++) {
          int[] v = {first, second};
          String got = answer(x, null, what, v);
          String due = answer(null, m, what, v);
          if (!got.equals(due)) {
            System.out.println("seed " + seed + ": " + String.join("; ", told) + "; "
                + NAMES[what] + java.util.Arrays.toString(v) + " " + got + ", due is " + due);
            return false;
          }
        }
      }
    }
    return true;
  }

  public static void main(String[] args) {
    int wrong = 0;
    for (int seed = 1; seed <= RUNS; seed++) {
      if (!sameRun(seed)) {
        wrong++;
      }
    }
    System.out.println(wrong == 0 ? RUNS + " runs are as the model" : wrong + " runs are not");
    if (wrong != 0) {
      System.exit(1);
    }
  }
}
