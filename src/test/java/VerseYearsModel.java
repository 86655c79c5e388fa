import java.util.ArrayList;
import java.util.List;
import java.util.TreeSet;

/** Runs of many calls, each answer held against a slow model that writes out every line and every reading as a text. */
public final class VerseYearsModel {
  private static final int RUNS = 600, CALLS = 512, MOST_WRITTEN_OUT = 6000;
  private static final int[] VALUES = {0, 1, 5, 10, 50, 100, 500, 1000};
  private static final int[] FAR = {Integer.MIN_VALUE, Integer.MAX_VALUE, -1, -2, 256, 1 << 16};

  private long seed;
  private final int[][] values = new int[4][26];
  private final List<String> words = new ArrayList<>();
  private final List<int[]> feetAndSorts = new ArrayList<>();
  private final int[] next = {7, 7, 7, 7};
  private String draft = "";
  private long trace = 0;
  private final VerseYears x = new VerseYears();
  private final StringBuilder calls = new StringBuilder();
  private boolean failed = false;

  private VerseYearsModel(long itsSeed) {
    seed = itsSeed;
    for (int[] row : values) {
      for (int k = 0; k < 7; k++) row["ivxlcdm".charAt(k) - 'a'] = VALUES[k + 1];
    }
  }

  public static void main(String[] args) {
    for (int run = 1; run <= RUNS; run++) {
      VerseYearsModel model = new VerseYearsModel(run * 7919L);
      for (int call = 0; call < CALLS && !model.failed; call++) model.oneCall();
      if (model.failed) {
        System.out.println("run " + run + ":" + model.calls);
        System.exit(1);
      }
    }
    System.out.println("all runs answered as the model does");
  }

  // ---- numbers that are the same in each run of this test

  private int below(int bound) {
    seed = seed * 6364136223846793005L + 1442695040888963407L;
    return (int) ((seed >>> 33) % bound);
  }

  /** Mostly from .. to, now and then beside it or far off. */
  private int about(int from, int to) {
    int way = below(40);
    if (way == 0) return FAR[below(FAR.length)];
    if (way == 1) return from - 1;
    if (way == 2) return to + 1;
    return from + below(to - from + 1);
  }

  private int year() {
    switch (below(4)) {
      case 0: return 0;
      case 1: return about(0, 3000);
      default: {
        int y = 0;
        for (int k = below(6); k > 0; k--) y += VALUES[below(8)];
        return y;
      }
    }
  }

  private void due(String call, long got, long want) {
    calls.append(' ').append(call).append('=').append(got);
    if (got != want) {
      failed = true;
      calls.append(" (due is ").append(want).append(')');
    }
  }

  private void oneCall() {
    switch (below(24)) {
      case 0: case 1: case 2: callType(); break;
      case 3: case 4: callVocable(); break;
      case 5: callValue(); break;
      case 6: callWorth(); break;
      case 7: callOrder(); break;
      case 8: due("clear", x.clear(), draft.length()); draft = ""; break;
      case 9: callSum(); break;
      case 10: callAbout(); break;
      case 11: callMany(); break;
      case 12: case 13: callLines(); break;
      case 14: case 15: callLine(); break;
      case 16: callDoubles(); break;
      case 17: callFit(); break;
      case 18: case 19: callReadings(); break;
      case 20: case 21: callYears(); break;
      case 22: callBorne(); break;
      default: if (below(2) == 0) callCount(); else due("trace", x.trace(), trace); break;
    }
  }

  // ---- the calls

  private void callType() {
    int n = about(1, 8);
    if (below(2) == 0) n = about(1, 3);
    String known = below(3) == 0 ? "ivxmVX?1" : below(2) == 0 ? "iVmM" : "iVmM? ";
    long v = (long) below(256) << 56;
    StringBuilder text = new StringBuilder();
    for (int k = 0; k < Math.min(Math.max(n, 0), 8); k++) {
      char c = known.charAt(below(known.length() == 8 && below(9) > 0 ? 7 : known.length()));
      text.append(c);
      v = v << 8 | c;
    }
    long want;
    if (n < 1 || n > 8 || text.indexOf("1") >= 0) want = -1;
    else if (draft.length() + n > 40) want = -3;
    else {
      draft += text;
      want = draft.length();
    }
    due("type(" + v + ", " + n + ")", x.type(v, n), want);
  }

  private void callVocable() {
    int feet = about(1, 3), sort = about(0, 2);
    long want;
    if (feet < 1 || feet > 3 || sort < 0 || sort > 2) want = -1;
    else if (!draft.matches("[a-zA-Z]{1,8}")) want = -2;
    else if (words.size() == 10) want = -3;
    else {
      want = words.size();
      words.add(draft);
      feetAndSorts.add(new int[] {feet, sort});
      draft = "";
    }
    due("vocable(" + feet + ", " + sort + ")", x.vocable(feet, sort), want);
  }

  private void callValue() {
    int custom = about(0, 3), v = below(9) == 0 ? about(2, 4) : VALUES[below(8)];
    int letter = below(4) == 0 ? about('a', 'z') : "ivmx".charAt(below(4));
    long want = -1;
    boolean known = false;
    for (int each : VALUES) known |= each == v;
    if (known && isCustomary(0, custom) && letter >= 'a' && letter <= 'z') {
      want = values[custom][letter - 'a'];
      values[custom][letter - 'a'] = v;
    }
    due("value(" + custom + ", " + letter + ", " + v + ")", x.value(custom, letter, v), want);
  }

  private void callWorth() {
    int counting = about(0, 2), custom = about(0, 3), letter = about(0, 255);
    if (below(2) == 0) letter = "ivxmIVXM".charAt(below(8));
    int ahead = below(2) == 0 ? letter : about(0, 255);
    long want = -1;
    if (isCustomary(counting, custom) && letter >= 0 && letter < 256 && ahead >= 0 && ahead < 256) {
      want = worth(counting, custom, (char) letter, (char) ahead);
      trace += counting == 0 ? 1 : counting == 1 ? 11 : 111;
    }
    due("worth(" + counting + ", " + custom + ", " + letter + ", " + ahead + ")",
        x.worth(counting, custom, letter, ahead), want);
  }

  private void callOrder() {
    int sort = about(0, 3), set = below(2) == 0 ? 7 : about(0, 7);
    long want = -1;
    if (sort >= 0 && sort <= 3 && set >= 0 && set <= 7) {
      want = next[sort];
      next[sort] = set;
    }
    due("order(" + sort + ", " + set + ")", x.order(sort, set), want);
  }

  private void callSum() {
    int counting = about(0, 2), custom = about(0, 3);
    due("sum(" + counting + ", " + custom + ")", x.sum(counting, custom),
        isCustomary(counting, custom) ? sum(counting, custom, draft) : -1);
  }

  private void callAbout() {
    int vocable = about(0, Math.max(words.size() - 1, 0)), what = about(0, 3);
    long want = -1;
    if (vocable >= 0 && vocable < words.size() && what >= 0 && what <= 3) {
      String word = words.get(vocable);
      want = what == 0 ? word.length() : what == 3 ? word.charAt(0) : feetAndSorts.get(vocable)[what - 1];
    }
    due("about(" + vocable + ", " + what + ")", x.about(vocable, what), want);
  }

  private void callMany() {
    int feet = about(1, 8);
    List<int[]> all = allLines(feet);
    if (all == null) return;
    due("many(" + feet + ")", x.many(feet), feet < 1 || feet > 8 ? -1 : all.size());
  }

  private void callLines() {
    int feet = about(1, 8), counting = about(0, 2), custom = about(0, 3);
    List<int[]> all = allLines(feet);
    if (all == null) return;
    int y = likelyYear(all, counting, custom);
    long want = -1;
    if (feet >= 1 && feet <= 8 && isYear(y) && isCustomary(counting, custom)) {
      want = linesOf(all, y, counting, custom).size();
    }
    due("lines(" + feet + ", " + y + ", " + counting + ", " + custom + ")", x.lines(feet, y, counting, custom), want);
  }

  private void callLine() {
    int feet = about(1, 8), counting = about(0, 2), custom = about(0, 3), i = about(0, 5);
    List<int[]> all = allLines(feet);
    if (all == null) return;
    int y = likelyYear(all, counting, custom);
    long number = about(0, 3);
    long want = -2;
    if (feet >= 1 && feet <= 8 && isYear(y) && isCustomary(counting, custom) && i >= 0) {
      List<int[]> some = linesOf(all, y, counting, custom);
      if (!some.isEmpty() && below(4) > 0) number = below(some.size());
      if (number >= 0 && number < some.size()) {
        int[] line = some.get((int) number);
        want = i < line.length ? line[i] : -9;
      }
    }
    due("line(" + feet + ", " + y + ", " + counting + ", " + custom + ", " + number + ", " + i + ")",
        x.line(feet, y, counting, custom, number, i), want);
  }

  private void callDoubles() {
    int feet = about(1, 5), counting = about(0, 2), one = about(0, 3), other = about(0, 3);
    List<int[]> all = allLines(feet);
    if (all == null) return;
    int y = year(), z = year();
    if (!all.isEmpty() && isCustomary(counting, one) && isCustomary(counting, other) && below(4) > 0) {
      String text = textOf(all.get(below(all.size())));
      y = sum(counting, one, text);
      z = sum(counting, other, text);
    }
    long want = -1;
    if (feet >= 1 && feet <= 5 && isYear(y) && isYear(z) && isCustomary(counting, one)
        && isCustomary(counting, other)) {
      want = linesOf(linesOf(all, y, counting, one), z, counting, other).size();
    }
    due("doubles(" + feet + ", " + y + ", " + z + ", " + counting + ", " + one + ", " + other + ")",
        x.doubles(feet, y, z, counting, one, other), want);
  }

  private void callFit() {
    List<String> parts = parts();
    int i = about(0, Math.max(parts.size() - 1, 0));
    long want = -1;
    if (i >= 0 && i < parts.size()) {
      want = 0;
      for (String word : words) want += fits(word, parts.get(i)) ? 1 : 0;
    }
    due("fit(" + i + ")", x.fit(i), want);
  }

  private void callReadings() {
    List<int[]> all = allReadings();
    if (all == null) return;
    due("readings()", x.readings(), parts().isEmpty() ? -2 : all.size());
  }

  private void callYears() {
    int counting = about(0, 2), custom = about(0, 3), what = about(0, 3);
    List<int[]> all = allReadings();
    if (all == null) return;
    long want;
    if (!isCustomary(counting, custom) || what < 0 || what > 3) want = -1;
    else if (parts().isEmpty()) want = -2;
    else {
      TreeSet<Integer> years = new TreeSet<>();
      for (int[] reading : all) {
        int y = sum(counting, custom, textOf(reading));
        if (y <= 3000) years.add(y);
      }
      if (what == 0) want = years.size();
      else if (what == 3) want = years.size() == 1 ? 1 : 0;
      else if (years.isEmpty()) want = -9;
      else want = what == 1 ? years.first() : years.last();
    }
    due("years(" + counting + ", " + custom + ", " + what + ")", x.years(counting, custom, what), want);
  }

  private void callBorne() {
    int year = below(3) == 0 ? about(0, 60000) : sum(below(3), below(4), draft);
    long want = -1;
    if (year >= 0 && year <= 60000) {
      want = 0;
      for (int bit = 0; bit < 12; bit++) {
        if (sum(bit % 3, bit / 3, draft) == year) want |= 1 << bit;
      }
    }
    due("borne(" + year + ")", x.borne(year), want);
  }

  private void callCount() {
    int what = about(0, 3);
    long want = -1;
    if (what == 0) want = words.size();
    if (what == 1) want = draft.length();
    if (what == 2) want = parts().size();
    if (what == 3) want = draft.chars().filter(c -> c == '?').count();
    due("count(" + what + ")", x.count(what), want);
  }

  // ---- the terms of the document

  private static boolean isCustomary(int counting, int custom) {
    return counting >= 0 && counting <= 2 && custom >= 0 && custom <= 3;
  }

  private static boolean isYear(int y) {
    return y >= 0 && y <= 3000;
  }

  private int worth(int counting, int custom, char letter, char ahead) {
    String one = String.valueOf(letter);
    int worth = one.matches("[a-zA-Z]") ? values[custom][one.toLowerCase().charAt(0) - 'a'] : 0;
    if (counting >= 1) worth = one.matches("[A-Z]") ? worth : 0;
    if (counting == 2) worth = letter == ahead ? 0 : worth;
    return worth;
  }

  private int sum(int counting, int custom, String text) {
    int total = 0;
    for (int k = 0; k < text.length(); k++) {
      char c = text.charAt(k);
      if (c != ' ' && c != '?') total += worthQuickly(counting, custom, c, k == 0 ? ' ' : text.charAt(k - 1));
    }
    return total;
  }

  private int worthQuickly(int counting, int custom, char c, char ahead) {
    boolean capital = Character.isUpperCase(c);
    if (counting > 0 && !capital || counting == 2 && c == ahead) return 0;
    return values[custom][Character.toLowerCase(c) - 'a'];
  }

  private String textOf(int[] vocables) {
    StringBuilder text = new StringBuilder();
    for (int v : vocables) text.append(text.length() == 0 ? "" : " ").append(words.get(v));
    return text.toString();
  }

  private List<String> parts() {
    List<String> parts = new ArrayList<>();
    for (String part : draft.split(" ")) {
      if (!part.isEmpty()) parts.add(part);
    }
    return parts;
  }

  private static boolean fits(String word, String part) {
    return word.matches(part.replace('?', '.'));
  }

  private boolean mayCome(int behind, int vocable) {
    return (next[behind] & 1 << feetAndSorts.get(vocable)[1]) != 0;
  }

  /** In order; null: too many to be written out. */
  private List<int[]> allLines(int feet) {
    List<int[]> all = new ArrayList<>();
    if (feet >= 1 && feet <= 8) addLines(all, new int[0], 3, feet);
    return all.size() > MOST_WRITTEN_OUT ? null : all;
  }

  private void addLines(List<int[]> all, int[] begun, int behind, int feet) {
    if (feet == 0) all.add(begun);
    if (feet <= 0 || all.size() > MOST_WRITTEN_OUT) return;
    for (int v = 0; v < words.size(); v++) {
      if (mayCome(behind, v)) addLines(all, with(begun, v), feetAndSorts.get(v)[1], feet - feetAndSorts.get(v)[0]);
    }
  }

  private List<int[]> allReadings() {
    List<int[]> all = new ArrayList<>();
    List<String> parts = parts();
    if (!parts.isEmpty()) addReadings(all, new int[0], 3, parts);
    return all.size() > MOST_WRITTEN_OUT ? null : all;
  }

  private void addReadings(List<int[]> all, int[] begun, int behind, List<String> parts) {
    if (begun.length == parts.size()) {
      all.add(begun);
      return;
    }
    if (all.size() > MOST_WRITTEN_OUT) return;
    for (int v = 0; v < words.size(); v++) {
      if (mayCome(behind, v) && fits(words.get(v), parts.get(begun.length))) {
        addReadings(all, with(begun, v), feetAndSorts.get(v)[1], parts);
      }
    }
  }

  private static int[] with(int[] begun, int v) {
    int[] longer = java.util.Arrays.copyOf(begun, begun.length + 1);
    longer[begun.length] = v;
    return longer;
  }

  private List<int[]> linesOf(List<int[]> all, int y, int counting, int custom) {
    List<int[]> some = new ArrayList<>();
    for (int[] line : all) {
      if (sum(counting, custom, textOf(line)) == y) some.add(line);
    }
    return some;
  }

  private int likelyYear(List<int[]> all, int counting, int custom) {
    if (all.isEmpty() || !isCustomary(counting, custom) || below(4) == 0) return year();
    return sum(counting, custom, textOf(all.get(below(all.size()))));
  }
}
