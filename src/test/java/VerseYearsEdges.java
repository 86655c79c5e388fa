import java.util.EnumMap;
import java.util.Map;
import java.util.function.ToLongFunction;

/**
 * Each sentence of the document that names a boundary case, with a test of its own: the last number that is still taken
 * and the first one that is refused, on both sides; empty and full; which refusal comes first. A refused call is made
 * on an object at each stage that it applies to, and all that later calls show there is held against an object at the
 * same stage that was not asked.
 */
public final class VerseYearsEdges {
  private static final int BAD = -1, STATE = -2, FULL = -3, NONE = -9, BAD_LINE = -2;
  private static final int LOW = Integer.MIN_VALUE, HIGH = Integer.MAX_VALUE;
  private static final int ALL = 0, MARKED = 1, ONCE = 2, BEGINNING = 3;
  private static final int MOST_CALLS = 512, MOST_TOLD = 2000000000;
  private static final int[] VALUES = {0, 1, 5, 10, 50, 100, 500, 1000};
  private static final String M40 = "MMMMMMMMMMMMMMMMMMMMMMMMMMMMMMMMMMMMMMMM";
  private static final String TWENTY_PARTS = "? ? ? ? ? ? ? ? ? ? ? ? ? ? ? ? ? ? ? ?";

  private static String sentence = "";
  private static int wrong = 0;

  public static void main(String[] args) {
    anObjectIsUsedFor512Calls();
    newObject();
    value();
    worth();
    type();
    clear();
    sum();
    vocable();
    about();
    order();
    many();
    lines();
    line();
    doubles();
    parts();
    fit();
    readings();
    years();
    borne();
    count();
    trace();
    firstOfTheRefusals();
    System.out.println(wrong == 0 ? "all boundaries hold" : wrong + " answers are not as due");
    if (wrong != 0) System.exit(1);
  }

  // ---- what the tests are told with

  private static void says(String what) {
    sentence = what;
  }

  private static void fail(String how) {
    wrong++;
    System.out.println(sentence + ": " + how);
  }

  /** A call with its arguments; the name is for telling which one was wrong. */
  private static final class Call {
    final String name;
    final ToLongFunction<VerseYears> asked;

    Call(ToLongFunction<VerseYears> itsAsked, String itsName, long... arguments) {
      StringBuilder text = new StringBuilder(itsName).append('(');
      for (int k = 0; k < arguments.length; k++) text.append(k == 0 ? "" : ", ").append(arguments[k]);
      name = text.append(')').toString();
      asked = itsAsked;
    }
  }

  /** An object with its calls counted: what it answers beyond 512 of them is free, and no test may rest on it. */
  private static final class Book {
    private final VerseYears years = new VerseYears();
    private int calls = 0;

    long ask(Call call) {
      calls++;
      if (calls > MOST_CALLS) fail(call.name + " is call " + calls + " of this test on one object");
      return call.asked.applyAsLong(years);
    }

    Book due(long want, Call... asked) {
      for (Call call : asked) {
        long got = ask(call);
        if (got != want) fail(call.name + " answered " + got + ", due is " + want);
      }
      return this;
    }

    Book write(String text) {
      for (int at = 0; at < text.length(); at += 8) {
        String piece = text.substring(at, Math.min(at + 8, text.length()));
        if (ask(typed(piece)) < piece.length()) fail("'" + piece + "' was not taken");
      }
      return this;
    }

    Book rewrite(String text) {
      ask(clearCall());
      return write(text);
    }

    Book list(String text, int feet, int sort) {
      write(text);
      if (ask(vocable(feet, sort)) < 0) fail("vocable '" + text + "' was not taken");
      return this;
    }

    /** One vocable of one foot for each letter, the sorts in turn. */
    Book listEach(String letters) {
      for (int k = 0; k < letters.length(); k++) list(letters.substring(k, k + 1), 1, k % 3);
      return this;
    }
  }

  private static long packed(String text) {
    long v = 0;
    for (int k = 0; k < text.length(); k++) v = v << 8 | text.charAt(k);
    return v;
  }

  private static Call typed(String text) {
    return type(packed(text), text.length());
  }

  private static Call value(int custom, int letter, int v) {
    return new Call(x -> x.value(custom, letter, v), "value", custom, letter, v);
  }

  private static Call worth(int counting, int custom, int letter, int ahead) {
    return new Call(x -> x.worth(counting, custom, letter, ahead), "worth", counting, custom, letter, ahead);
  }

  private static Call type(long v, int n) {
    return new Call(x -> x.type(v, n), "type", v, n);
  }

  private static Call clearCall() {
    return new Call(x -> x.clear(), "clear");
  }

  private static Call sum(int counting, int custom) {
    return new Call(x -> x.sum(counting, custom), "sum", counting, custom);
  }

  private static Call vocable(int feet, int sort) {
    return new Call(x -> x.vocable(feet, sort), "vocable", feet, sort);
  }

  private static Call about(int vocable, int what) {
    return new Call(x -> x.about(vocable, what), "about", vocable, what);
  }

  private static Call order(int sort, int set) {
    return new Call(x -> x.order(sort, set), "order", sort, set);
  }

  private static Call many(int feet) {
    return new Call(x -> x.many(feet), "many", feet);
  }

  private static Call lines(int feet, int y, int counting, int custom) {
    return new Call(x -> x.lines(feet, y, counting, custom), "lines", feet, y, counting, custom);
  }

  private static Call line(int feet, int y, int counting, int custom, long number, int i) {
    return new Call(x -> x.line(feet, y, counting, custom, number, i),
        "line", feet, y, counting, custom, number, i);
  }

  private static Call doubles(int feet, int y, int z, int counting, int one, int other) {
    return new Call(x -> x.doubles(feet, y, z, counting, one, other), "doubles", feet, y, z, counting, one, other);
  }

  private static Call fit(int i) {
    return new Call(x -> x.fit(i), "fit", i);
  }

  private static Call readingsCall() {
    return new Call(x -> x.readings(), "readings");
  }

  private static Call years(int counting, int custom, int what) {
    return new Call(x -> x.years(counting, custom, what), "years", counting, custom, what);
  }

  private static Call borne(int year) {
    return new Call(x -> x.borne(year), "borne", year);
  }

  private static Call count(int what) {
    return new Call(x -> x.count(what), "count", what);
  }

  private static Call traceCall() {
    return new Call(x -> x.trace(), "trace");
  }

  // ---- refused, and nothing changes

  /** What an object has behind it when it is asked something that it refuses. */
  private enum Stage {
    NEW, LISTED, FULL_OF_BLANKS, FULL_DRAFT, FULL_LIST, ALL_FULL;

    Book make() {
      Book x = new Book();
      switch (this) {
        case LISTED: return listed(x);
        case FULL_OF_BLANKS: return x.listEach("iVx").write(" ".repeat(40));
        case FULL_DRAFT: return x.listEach("iVx").write(TWENTY_PARTS + "V");
        case FULL_LIST: return asked(x.listEach("iVxLcDmabe")).write("x");
        case ALL_FULL: return asked(x.listEach("iVxLcDmabe")).write(TWENTY_PARTS + "V");
        default: return x;
      }
    }

    private static Book listed(Book x) {
      x.list("xi", 1, 0).list("Vix", 2, 1).list("cC", 1, 2).list("ab", 3, 0);
      x.ask(value(1, 'x', 100));
      x.ask(value(2, 'a', 1));
      x.ask(order(1, 5));
      x.ask(order(BEGINNING, 3));
      x.ask(worth(ONCE, 0, 'X', 'x'));
      return asked(x).write("x? ?C  Vi? ?b");
    }

    /** Counts of lines may be kept from call to call. */
    private static Book asked(Book x) {
      x.ask(lines(8, 60, ALL, 0));
      x.ask(line(8, 60, ALL, 0, 1, 1));
      return x;
    }
  }

  private static final Map<Stage, String> UNASKED = new EnumMap<>(Stage.class);

  private static String unasked(Stage stage) {
    return UNASKED.computeIfAbsent(stage, one -> shown(one.make()));
  }

  /** At every stage: BAD comes ahead of all other refusals. */
  private static void bad(Call... calls) {
    for (Call call : calls) refusedAt(Stage.values(), BAD, call);
  }

  private static void badLine(Call... calls) {
    for (Call call : calls) refusedAt(Stage.values(), BAD_LINE, call);
  }

  private static void refused(Stage stage, int want, Call... calls) {
    for (Call call : calls) refusedAt(new Stage[] {stage}, want, call);
  }

  private static void refusedAt(Stage[] stages, int want, Call call) {
    for (Stage stage : stages) {
      Book x = stage.make();
      long got = x.ask(call);
      if (got != want) fail(call.name + " at " + stage + " answered " + got + ", due is " + want);
      if (!shown(x).equals(unasked(stage))) fail(call.name + " at " + stage + " was refused, and changed something");
    }
  }

  /** All that calls show of an object, as a text; it is of no use behind this. */
  private static String shown(Book x) {
    StringBuilder all = new StringBuilder();
    showLists(x, all);
    showStone(x, all);
    showLines(x, all);
    showOrderAndValues(x, all);
    showLetters(x, all);
    show(x, all, clearCall(), count(1), traceCall());
    return all.toString();
  }

  private static void show(Book x, StringBuilder all, Call... calls) {
    for (Call call : calls) all.append(call.name).append('=').append(x.ask(call)).append('\n');
  }

  private static void showLists(Book x, StringBuilder all) {
    show(x, all, traceCall());
    for (int what = 0; what < 4; what++) {
      show(x, all, count(what));
      for (int v = 0; v < 10; v++) show(x, all, about(v, what));
    }
  }

  private static void showStone(Book x, StringBuilder all) {
    show(x, all, readingsCall(), fit(0), fit(1), fit(2), fit(19), borne(0), borne(5));
    for (int counting = ALL; counting <= ONCE; counting++) {
      for (int custom = 0; custom < 4; custom++) {
        show(x, all, sum(counting, custom), years(counting, custom, 0), years(counting, custom, 2));
      }
    }
  }

  private static void showLines(Book x, StringBuilder all) {
    for (int feet = 1; feet <= 8; feet++) show(x, all, many(feet), lines(feet, 60, ALL, 0));
    for (int y : new int[] {0, 11, 16, 22, 110, 222}) {
      show(x, all, lines(2, y, ALL, 0), lines(2, y, ALL, 1), lines(3, y, MARKED, 2), lines(3, y, ONCE, 3));
    }
    for (int i = 0; i < 3; i++) show(x, all, line(2, 22, ALL, 0, 0, i), line(3, 15, MARKED, 0, 1, i));
    show(x, all, doubles(3, 38, 218, ALL, 0, 1), doubles(2, 15, 15, ALL, 2, 3));
  }

  private static void showOrderAndValues(Book x, StringBuilder all) {
    for (int place = 0; place <= BEGINNING; place++) show(x, all, order(place, 7));
    for (int custom = 0; custom < 4; custom++) {
      for (int letter = 'a'; letter <= 'z'; letter++) show(x, all, value(custom, letter, 0));
    }
  }

  /** With all values 0, each letter's own one tells how often it stands in the draft. */
  private static void showLetters(Book x, StringBuilder all) {
    for (int letter = 'a'; letter <= 'z'; letter++) {
      x.ask(value(0, letter, 1));
      show(x, all, sum(ALL, 0), sum(ONCE, 0));
      x.ask(value(0, letter, 0));
    }
  }

  /** Numbers that are not in first .. last: beside them, far off, and those that would be in it if they were cut. */
  private static int[] beside(int first, int last) {
    return new int[] {first - 1, last + 1, LOW, HIGH, -HIGH, first + (1 << 16), last - (1 << 16)};
  }

  // ---- what it is

  private static void anObjectIsUsedFor512Calls() {
    says("An object is used for at most 512 calls: the last one is answered");
    Book x = new Book();
    for (int k = 0; k < MOST_CALLS - 1; k++) x.due(1000, worth(ONCE, 3, 'M', 'm'));
    x.due(111 * (MOST_CALLS - 1), traceCall());

    says("An object is used for at most 512 calls: refused ones and changes are calls, too");
    Book y = new Book().list("x", 1, 0).list("X", 1, 1);
    int v = 10;
    for (int k = 0; k < 101; k++) {
      int next = v == 10 ? 5 : 10;
      y.due(BAD, value(0, 'x', 2)).due(v, value(0, 'x', next)).due(8, lines(3, 3 * next, ALL, 0));
      y.due(1, lines(3, 3 * next, MARKED, 0)).due(7, order(1, 7));
      v = next;
    }
    y.due(1, line(3, 15, ALL, 0, 7, 2), line(3, 15, ALL, 0, 7, 0)).due(0, line(3, 15, ALL, 0, 0, 2));
  }

  // ---- promise 1

  private static void newObject() {
    says("1: a new object has no VOCABLES");
    Book x = new Book().due(0, count(0)).due(BAD, about(0, 0), about(0, 1), about(0, 2), about(0, 3));
    for (int feet = 1; feet <= 8; feet++) x.due(0, many(feet), lines(feet, 0, ALL, 0));
    x.due(BAD_LINE, line(1, 0, ALL, 0, 0, 0)).due(0, doubles(1, 0, 0, ALL, 0, 1));

    says("1: a new object has an empty DRAFT");
    new Book().due(0, count(1), count(2), count(3), clearCall(), sum(ALL, 0)).due(4095, borne(0)).due(BAD, fit(0))
        .due(STATE, readingsCall(), years(ALL, 0, 0), vocable(1, 0));

    says("Terms: at first, each: i 1, v 5, x 10, l 50, c 100, d 500, m 1000, all others 0");
    Book y = new Book();
    for (int custom = 0; custom < 4; custom++) {
      for (int letter = 'a'; letter <= 'z'; letter++) {
        y.due(VALUES["ivxlcdm".indexOf(letter) + 1], value(custom, letter, 50));
      }
    }

    says("Terms: THE ORDER, 7 each at first");
    new Book().due(7, order(0, 0), order(1, 0), order(2, 0), order(BEGINNING, 0));

    says("1: a new object: THE TRACE has nothing yet");
    new Book().due(0, traceCall());

    says("1: a new object has nothing of another one");
    Stage.ALL_FULL.make().due(5, value(0, 'v', 0)).due(7, order(2, 0)).due(0, worth(ONCE, 0, 'V', 'V'));
    new Book().due(0, count(0), count(1), traceCall()).due(7, order(2, 7)).due(5, worth(ALL, 0, 'v', 'v'));
  }

  // ---- promise 2

  private static void value() {
    says("2: a CUSTOM, 0 .. 3");
    Book x = new Book();
    for (int custom = 0; custom < 4; custom++) x.due(1, value(custom, 'i', VALUES[custom + 2]));
    for (int custom = 0; custom < 4; custom++) x.due(VALUES[custom + 2], value(custom, 'i', 0));
    for (int custom : beside(0, 3)) bad(value(custom, 'i', 5));

    says("2: a letter, its byte a .. z");
    new Book().due(0, value(0, 'a', 5), value(0, 'z', 10)).due(5, value(0, 'a', 1), worth(ALL, 0, 'V', ' '))
        .due(10, value(0, 'z', 1));
    for (int letter : beside('a', 'z')) bad(value(0, letter, 5));
    bad(value(0, 'A', 5), value(0, 'Z', 5), value(0, 0, 5), value(0, 25, 5), value(0, '?', 5), value(0, ' ', 5));
    bad(value(0, 'a' + 256, 5), value(0, 'z' - 256, 5));

    says("2: VALUE 0, 1, 5, 10, 50, 100, 500 or 1000");
    Book y = new Book();
    int was = 0;
    for (int v : VALUES) {
      y.due(was, value(3, 'a', v)).due(v, worth(ALL, 3, 'a', ' '));
      was = v;
    }
    for (int v : VALUES) {
      if (v != 0) bad(value(0, 'a', v - 1 == 0 ? 2 : v - 1));
      bad(value(0, 'a', v + 1 == 1 ? -1 : v + 1), value(0, 'a', v + (1 << 16)), value(0, 'a', -2 - v));
    }
    bad(value(0, 'a', 5000), value(0, 'a', 10000), value(0, 'a', LOW), value(0, 'a', HIGH));

    says("2: what it was, also if it stays the same");
    new Book().due(1000, value(0, 'm', 1000), value(0, 'm', 1000), value(0, 'm', 0)).due(0, value(0, 'm', 0));

    says("Terms: a capital has that of its letter");
    new Book().due(0, value(1, 'a', 5), value(1, 'z', 50)).due(5, worth(ALL, 1, 'A', ' '), worth(ONCE, 1, 'A', 'a'))
        .due(50, worth(ALL, 1, 'Z', ' '), worth(MARKED, 1, 'Z', 'Z')).due(0, worth(ALL, 0, 'A', ' '));
  }

  // ---- promise 3

  private static void worth() {
    says("3: COUNTINGS 0 .. 2");
    new Book().due(10, worth(0, 0, 'x', ' ')).due(0, worth(1, 0, 'x', ' '), worth(2, 0, 'x', ' '))
        .due(10, worth(1, 0, 'X', 'X')).due(0, worth(2, 0, 'X', 'X'));
    for (int counting : beside(0, 2)) bad(worth(counting, 0, 'X', ' '));

    says("3: a CUSTOM, 0 .. 3");
    new Book().due(1, value(0, 'i', 5), value(3, 'i', 10)).due(5, worth(ALL, 0, 'i', ' '))
        .due(1, worth(ALL, 1, 'i', ' '), worth(ALL, 2, 'i', ' ')).due(10, worth(ALL, 3, 'i', ' '));
    for (int custom : beside(0, 3)) bad(worth(ALL, custom, 'X', ' '));

    says("3: WORTH of a byte (0 .. 255)");
    new Book().due(0, worth(ALL, 0, 0, ' '), worth(ALL, 0, 255, ' ')).due(2, traceCall());
    for (int letter : beside(0, 255)) bad(worth(ALL, 0, letter, ' '));
    bad(worth(ALL, 0, 'X' + 256, ' '), worth(ALL, 0, 'X' - 256, ' '));

    says("3: with another one ahead (0 .. 255)");
    new Book().due(10, worth(ONCE, 0, 'X', 0), worth(ONCE, 0, 'X', 255)).due(222, traceCall());
    for (int ahead : beside(0, 255)) bad(worth(ONCE, 0, 'X', ahead));
    bad(worth(ONCE, 0, 'X', 'X' + 256));

    worthsOfAllBytes();

    says("Terms: ONCE: 0, if the byte ahead is the same one");
    new Book().due(0, worth(ONCE, 0, 'M', 'M')).due(1000, worth(ONCE, 0, 'M', 'm'), worth(ONCE, 0, 'M', 'L'),
        worth(ONCE, 0, 'M', 'N'), worth(ONCE, 0, 'M', ' '))
        .due(1000, worth(ALL, 0, 'M', 'M'), worth(MARKED, 0, 'M', 'M'));
  }

  /** All letters are worth something here, so that a byte beside them would show. */
  private static void worthsOfAllBytes() {
    for (int counting = ALL; counting <= ONCE; counting++) {
      Book x = new Book();
      for (int letter = 'a'; letter <= 'z'; letter++) x.ask(value(2, letter, 500));
      for (int b = 0; b < 256; b++) {
        boolean isCapital = b >= 'A' && b <= 'Z';
        boolean isSmall = b >= 'a' && b <= 'z';
        says(isCapital || isSmall ? "Terms: MARKED up, if it is a capital, else 0" : "Terms: a byte that is no letter");
        x.due(isCapital || isSmall && counting == ALL ? 500 : 0, worth(counting, 2, b, ' '));
      }
      says("Terms: the bodies are asked all the same");
      x.due(256 * (counting == ALL ? 1 : counting == MARKED ? 11 : 111), traceCall());
    }
  }

  // ---- promise 4

  private static void type() {
    says("4: the lowest n (1 .. 8) bytes");
    for (int n = 1; n <= 8; n++) new Book().due(n, typed("abcdefgh".substring(0, n)), count(1));
    for (int n : beside(1, 8)) bad(type(packed("abcdefgh"), n));
    bad(type(packed("a"), 256 + 1), type(packed("a"), 0), type(0, 0));

    says("4: the lowest n bytes: those above them may be any");
    for (int n = 1; n < 8; n++) {
      new Book().due(n, type(-1L << 8 * n | packed("abcdefgh".substring(0, n)), n)).due(0, vocable(1, 0))
          .due(n, about(0, 0)).due('a', about(0, 3));
    }
    bad(type(-1, 8), type(Long.MIN_VALUE, 8), type(Long.MAX_VALUE, 8), type(0, 8));

    says("4: the highest of them first");
    new Book().list("abcdefgh", 1, 0).write("a").write("b").write("c").write("d").write("e").write("f").write("g")
        .due(0, fit(0)).write("h").due(1, fit(0)).rewrite("hgfedcba").due(0, fit(0));

    says("4: they come behind what it has");
    new Book().list("xY", 1, 0).write("x").write("Y").due(1, fit(0)).rewrite("Y").write("x").due(0, fit(0));

    bytesThatMayStand();
    fullDraft();
  }

  private static void bytesThatMayStand() {
    says("4: letters, blanks, and ?: all others may not stand there");
    for (int from = 0; from < 256; from += 64) {
      Book x = new Book();
      for (int b = from; b < from + 64; b++) {
        boolean may = b >= 'A' && b <= 'Z' || b >= 'a' && b <= 'z' || b == ' ' || b == '?';
        x.due(may ? 1 : BAD, type(b, 1)).due(may ? 1 : 0, count(1), clearCall());
      }
    }

    says("4: a byte that may not stand there, at each place: none of them comes");
    for (char b : new char[] {'@', '[', '`', '{', 0, '1', 31, '!', '>', 127, 128, 'a' + 128, 255}) {
      for (int n = 1; n <= 8; n += 7) {
        for (int place = 0; place < n; place++) {
          StringBuilder text = new StringBuilder("abcdefgh".substring(0, n));
          text.setCharAt(place, b);
          refused(Stage.LISTED, BAD, typed(text.toString()));
        }
      }
    }
  }

  private static void fullDraft() {
    says("4: FULL: more than 40");
    Book x = new Book();
    for (int k = 1; k <= 40; k++) x.due(k, typed(k % 9 == 0 ? " " : "a"));
    x.due(FULL, typed("a"), typed(" "), typed("?"), typed("aaaaaaaa")).due(40, count(1), clearCall());
    for (int n = 1; n <= 8; n++) {
      new Book().write(M40.substring(0, 40 - n)).due(40, type(packed("aaaaaaaa"), n));
      new Book().write(M40.substring(0, 41 - n)).due(FULL, type(packed("aaaaaaaa"), n)).due(41 - n, count(1));
    }
    for (int n = 1; n <= 8; n++) {
      refused(Stage.FULL_DRAFT, FULL, type(packed("abcdefgh"), n));
      refused(Stage.ALL_FULL, FULL, type(packed("        "), n));
      refused(Stage.FULL_OF_BLANKS, FULL, type(packed("        "), n));
    }

    says("4: FULL takes none of them, and fewer may still come");
    new Book().write(M40.substring(0, 39)).due(FULL, typed("xx")).due(39000, sum(ALL, 0)).due(40, typed("x"))
        .due(39010, sum(ALL, 0)).due(FULL, typed("x"));
  }

  // ---- promise 5

  private static void clear() {
    says("5: how many bytes it had: empty");
    new Book().due(0, clearCall(), clearCall(), count(1));

    says("5: how many bytes it had: full");
    new Book().write(M40).due(40, clearCall()).due(0, clearCall(), count(1));

    says("5: THE DRAFT is empty: nothing of it stays");
    new Book().write("M? x V").due(6, clearCall()).due(0, count(1), count(2), count(3), sum(ALL, 0)).due(BAD, fit(0))
        .due(STATE, readingsCall(), years(ALL, 0, 0), vocable(1, 0)).due(4095, borne(0));

    says("5: THE DRAFT is empty: forty may come again, and the first one has a blank ahead");
    new Book().write(M40).due(40, clearCall()).write(M40).due(1000, sum(ONCE, 0)).due(FULL, typed("M"));

    says("5: THE DRAFT is empty, and nothing else changes");
    new Book().list("x", 1, 0).write("x").due(1, clearCall(), count(0), many(1), lines(1, 10, ALL, 0));
  }

  // ---- promise 6

  private static void sum() {
    says("6: COUNTINGS 0 .. 2");
    new Book().write("XXx").due(30, sum(0, 0)).due(20, sum(1, 0)).due(10, sum(2, 0));
    for (int counting : beside(0, 2)) bad(sum(counting, 0));

    says("6: a CUSTOM, 0 .. 3");
    new Book().due(10, value(0, 'x', 0), value(3, 'x', 100)).write("x").due(0, sum(ALL, 0))
        .due(10, sum(ALL, 1), sum(ALL, 2)).due(100, sum(ALL, 3));
    for (int custom : beside(0, 3)) bad(sum(ALL, custom));

    says("6: SUM of an empty DRAFT");
    for (int counting = ALL; counting <= ONCE; counting++) new Book().due(0, sum(counting, 0), sum(counting, 3));

    says("6: SUM of a full DRAFT");
    new Book().write(M40).due(40000, sum(ALL, 0), sum(MARKED, 3)).due(1000, sum(ONCE, 0));

    says("Terms: the first one with a blank ahead");
    new Book().write("X").due(10, sum(ONCE, 0)).rewrite("X").due(10, sum(ONCE, 0)).rewrite("XM")
        .due(1010, sum(ONCE, 0));

    says("Terms: WORTHS of all its bytes, each with the one ahead of it");
    new Book().write("M").write("M").due(1000, sum(ONCE, 0)).rewrite("M M").due(2000, sum(ONCE, 0))
        .rewrite("M?M").due(2000, sum(ONCE, 0)).rewrite("MmM").due(2000, sum(ONCE, 0))
        .rewrite("MMM").due(1000, sum(ONCE, 0)).rewrite(" ? ?? ").due(0, sum(ALL, 0), sum(ONCE, 0));
  }

  // ---- promise 7

  private static void vocable() {
    says("7: FEET 1 .. 3");
    Book x = new Book();
    for (int feet = 1; feet <= 3; feet++) x.list("a", feet, 0).due(feet, about(feet - 1, 1));
    for (int feet : beside(1, 3)) bad(vocable(feet, 0));
    bad(vocable(0, 0), vocable(256 + 1, 0));

    says("7: a SORT 0 .. 2");
    Book y = new Book();
    for (int sort = 0; sort <= 2; sort++) y.list("a", 1, sort).due(sort, about(sort, 2));
    for (int sort : beside(0, 2)) bad(vocable(1, sort));

    says("7: a text of 1 .. 8 letters");
    for (int n = 1; n <= 8; n++) {
      new Book().write("AzZabcde".substring(0, n)).due(0, vocable(1, 0)).due(n, about(0, 0)).due('A', about(0, 3));
    }
    new Book().due(STATE, vocable(1, 0)).due(0, count(0), count(1));
    for (int n = 9; n <= 40; n++) {
      new Book().write(M40.substring(0, n)).due(STATE, vocable(1, 0)).due(n, count(1)).due(0, count(0));
    }

    says("7: STATE: it is no text of letters");
    for (String text : new String[] {" ", "?", "a ", " a", "a b", "a?", "?a", "a?b", "abcdefg?", "?bcdefgh", "abcd fgh",
        "abcdefgh ", " abcdefgh"}) {
      new Book().write(text).due(STATE, vocable(1, 0)).due(text.length(), count(1)).due(0, count(0));
    }
    refused(Stage.NEW, STATE, vocable(1, 0), vocable(3, 2));
    refused(Stage.LISTED, STATE, vocable(1, 0), vocable(3, 2));
    refused(Stage.FULL_DRAFT, STATE, vocable(1, 0), vocable(3, 2));
    refused(Stage.FULL_OF_BLANKS, STATE, vocable(1, 0), vocable(3, 2));

    says("7: FULL: VOCABLES (10 at most)");
    Book z = new Book();
    for (int number = 0; number < 10; number++) z.write("x").due(number, vocable(1, 0)).due(number + 1, count(0));
    z.write("x").due(FULL, vocable(1, 0), vocable(3, 2)).due(1, count(1)).due(10, count(0), many(1));
    refused(Stage.FULL_LIST, FULL, vocable(1, 0), vocable(3, 2));

    says("7: THE DRAFT is empty then");
    new Book().write("abcdefgh").due(0, vocable(1, 0), count(1), count(2), clearCall()).due(STATE, readingsCall());
  }

  // ---- promise 8

  private static void about() {
    says("8: of a VOCABLE: there is no such thing");
    Book x = new Book().due(BAD, about(0, 0));
    for (int v = 0; v < 10; v++) {
      x.due(BAD, about(v, 0), about(v, 3)).list("abcdefghij".substring(v, v + 1), 1, 0).due('a' + v, about(v, 3));
    }
    x.due('a', about(0, 3)).due('j', about(9, 3)).due(BAD, about(10, 3), about(-1, 3));
    for (int what = 0; what < 4; what++) {
      for (int v : beside(0, 9)) bad(about(v, what));
      refused(Stage.NEW, BAD, about(0, what));
      refused(Stage.LISTED, BAD, about(4, what));
      refused(Stage.FULL_DRAFT, BAD, about(3, what));
    }

    says("8: 0 how many letters, 1 FEET, 2 SORT, 3 its first letter, and no more");
    new Book().list("Zabcdefg", 3, 2).list("z", 1, 0).due(8, about(0, 0)).due(3, about(0, 1)).due(2, about(0, 2))
        .due('Z', about(0, 3)).due(1, about(1, 0)).due(1, about(1, 1)).due(0, about(1, 2)).due('z', about(1, 3));
    for (int what : beside(0, 3)) bad(about(0, what));
  }

  // ---- promise 9

  private static void order() {
    says("9: one (3: at the beginning), 0 .. 3");
    new Book().due(7, order(0, 1), order(1, 2), order(2, 3), order(3, 4)).due(1, order(0, 7)).due(2, order(1, 7))
        .due(3, order(2, 7)).due(4, order(3, 7));
    for (int sort : beside(0, 3)) bad(order(sort, 0));

    says("9: a set, bits 0 .. 2");
    for (int place = 0; place <= BEGINNING; place++) {
      Book x = new Book().due(7, order(place, 0));
      for (int set = 1; set <= 7; set++) x.due(set - 1, order(place, set));
      x.due(7, order(place, 7));
      for (int set : beside(0, 7)) bad(order(place, set));
    }

    says("Terms: for the beginning and behind each SORT, which SORTS may come next");
    for (int place = 0; place <= BEGINNING; place++) {
      for (int set = 0; set <= 7; set++) orderOfThree(place, set);
    }

    says("9: the empty set: nothing may come");
    new Book().listEach("abe").due(7, order(BEGINNING, 0)).due(0, many(1), lines(1, 0, ALL, 0))
        .due(0, doubles(1, 0, 0, ALL, 0, 1))
        .due(BAD_LINE, line(1, 0, ALL, 0, 0, 0)).write("?").due(0, readingsCall(), years(ALL, 0, 0)).due(3, fit(0));
  }

  private static void orderOfThree(int place, int set) {
    int many = Integer.bitCount(set);
    Book x = new Book().listEach("abe").due(7, order(place, set));
    x.due(place == BEGINNING ? many : 3, many(1), lines(1, 0, ALL, 0), doubles(1, 0, 0, ALL, 0, 1));
    x.due(place == BEGINNING ? 3 * many : 6 + many, many(2), lines(2, 0, ALL, 0), doubles(2, 0, 0, ALL, 0, 1));
    x.write("? ?").due(place == BEGINNING ? 3 * many : 6 + many, readingsCall());
    for (int sort = 0; sort <= 2; sort++) {
      int may = set >> sort & 1;
      x.rewrite(place == BEGINNING ? "abe".charAt(sort) + "" : "abe".charAt(place) + " " + "abe".charAt(sort));
      x.due(may, readingsCall(), years(ALL, 0, 0));
    }
  }

  // ---- promise 10

  private static void many() {
    says("10: a LINE of F feet (1 .. 8)");
    Book x = new Book().listEach("iVxLcDmabe");
    long power = 1;
    for (int feet = 1; feet <= 8; feet++) {
      power *= 10;
      x.due(power, many(feet));
    }
    for (int feet : beside(1, 8)) bad(many(feet));

    says("10: FEET together F, no fewer and no more");
    for (int itsFeet = 1; itsFeet <= 3; itsFeet++) {
      Book y = new Book().list("a", itsFeet, 0);
      for (int feet = 1; feet <= 8; feet++) y.due(feet % itsFeet == 0 ? 1 : 0, many(feet), lines(feet, 0, ALL, 0));
    }
    long[] ofAllFeet = {1, 2, 4, 7, 13, 24, 44, 81};
    Book z = new Book().list("a", 3, 0).list("b", 2, 1).list("e", 1, 2);
    for (int feet = 1; feet <= 8; feet++) z.due(ofAllFeet[feet - 1], many(feet), lines(feet, 0, ALL, 0));
  }

  // ---- promise 11

  private static void lines() {
    says("11: a LINE of F feet (1 .. 8)");
    new Book().listEach("i").due(1, lines(1, 1, ALL, 0), lines(8, 8, ALL, 0)).due(0, lines(1, 0, ALL, 0),
        lines(8, 7, ALL, 0), lines(8, 9, ALL, 0));
    new Book().listEach("abefghjkno").due(10, lines(1, 0, ALL, 0)).due(100000000, lines(8, 0, ALL, 0));
    for (int feet : beside(1, 8)) bad(lines(feet, 0, ALL, 0));

    says("11: a SUM y (0 .. 3000)");
    Book x = new Book().list("mmm", 1, 0).list("mmmi", 1, 0).list("a", 1, 0);
    x.due(1, lines(1, 3000, ALL, 0), lines(1, 0, ALL, 0)).due(0, lines(1, 2999, ALL, 0), lines(1, 1, ALL, 0));
    x.due(2, lines(2, 3000, ALL, 0)).due(1, lines(2, 0, ALL, 0)).due(8, lines(8, 3000, ALL, 0));
    for (int y : beside(0, 3000)) bad(lines(1, y, ALL, 0));

    says("11: a SUM beyond 3000 is that of no y");
    Book y = new Book().list("mmmmmmmm", 1, 0).list("mmmmmmmm", 1, 1);
    for (int feet = 1; feet <= 8; feet++) {
      y.due(0, lines(feet, 3000, ALL, 0), lines(feet, 0, ALL, 0)).due(1 << feet, many(feet));
    }

    leastAndGreatestSumByTurns();

    says("11: COUNTINGS 0 .. 2");
    new Book().list("XXx", 1, 0).due(1, lines(2, 60, 0, 0), lines(2, 40, 1, 0), lines(2, 20, 2, 0))
        .due(0, lines(2, 40, 0, 0), lines(2, 20, 1, 0), lines(2, 60, 2, 0));
    for (int counting : beside(0, 2)) bad(lines(1, 0, counting, 0));

    says("11: a CUSTOM, 0 .. 3");
    new Book().list("x", 1, 0).due(10, value(0, 'x', 1), value(3, 'x', 5)).due(1, lines(2, 2, ALL, 0),
        lines(2, 20, ALL, 1), lines(2, 20, ALL, 2), lines(2, 10, ALL, 3))
        .due(0, lines(2, 20, ALL, 0), lines(2, 20, ALL, 3));
    for (int custom : beside(0, 3)) bad(lines(1, 0, ALL, custom));

    says("Terms: a blank between them, so each VOCABLE's own SUM, added");
    new Book().list("M", 1, 0).due(1, lines(2, 2000, ONCE, 0), lines(3, 3000, ONCE, 0)).due(0, lines(2, 1000, ONCE, 0));
  }

  /** What is kept of one SUM's counts must not be taken for another's, at either end of 0 .. 3000. */
  private static void leastAndGreatestSumByTurns() {
    says("11: a SUM y (0 .. 3000), the least and the greatest by turns");
    for (int sorts = 0; sorts < 27; sorts++) {
      Book x = new Book().list("a", 1, sorts % 3).list("i", 1, sorts / 3 % 3).list("mmm", 1, sorts / 9);
      for (int feet = 1; feet <= 8; feet++) {
        x.due(1, lines(feet, 0, ALL, 0)).due(feet, lines(feet, 3000, ALL, 0)).due(feet, lines(feet, 1, ALL, 0));
        x.due(0, lines(feet, 2999, ALL, 0)).due(feet, lines(feet, 3000, ALL, 0)).due(1, lines(feet, 0, ALL, 0));
      }
    }
  }

  // ---- promise 12

  private static void line() {
    says("12: told by number, 0 the first one");
    Book x = new Book().listEach("abefghjkno");
    for (int i = 0; i < 8; i++) {
      x.due(0, line(8, 0, ALL, 0, 0, i)).due(9, line(8, 0, ALL, 0, 99999999, i));
      x.due("20736541".charAt(i) - '0', line(8, 0, ALL, 0, 20736541, i));
    }

    says("12: BAD: there is no such LINE, too");
    x.due(BAD_LINE, line(8, 0, ALL, 0, 100000000, 0), line(8, 0, ALL, 0, -1, 0), line(8, 1, ALL, 0, 0, 0));
    x.due(BAD_LINE, line(8, 0, ALL, 0, 1L << 32, 0), line(8, 0, ALL, 0, (1L << 32) - 1, 0));
    badLine(line(1, 7, ALL, 0, 0, 0), line(1, 7, ALL, 0, 0, 9));
    for (long number : new long[] {-1, 10, 1L << 32, -1L << 32, Long.MIN_VALUE, Long.MAX_VALUE}) {
      badLine(line(1, 0, ALL, 0, number, 0), line(1, 0, ALL, 0, number, 1), line(1, 0, ALL, 0, number, HIGH));
    }

    says("12: place i (0 ..)");
    x.due(0, line(1, 0, ALL, 0, 0, 0)).due(9, line(1, 0, ALL, 0, 9, 0));
    for (int i : new int[] {-1, -2, LOW, -HIGH}) {
      badLine(line(1, 0, ALL, 0, 0, i));
      x.due(BAD_LINE, line(1, 0, ALL, 0, 0, i), line(8, 0, ALL, 0, 99999999, i));
    }

    says("12: NONE: it is shorter");
    x.due(NONE, line(8, 0, ALL, 0, 7, 8), line(8, 0, ALL, 0, 7, 9), line(8, 0, ALL, 0, 7, HIGH));
    x.due(NONE, line(1, 0, ALL, 0, 7, 1));
    Book y = new Book().list("a", 3, 0).list("b", 2, 1).list("e", 1, 2);
    int[][] ofThreeFeet = {{0, NONE, NONE, NONE}, {1, 2, NONE, NONE}, {2, 1, NONE, NONE}, {2, 2, 2, NONE}};
    for (int number = 0; number < 4; number++) {
      for (int i = 0; i < 4; i++) y.due(ofThreeFeet[number][i], line(3, 0, ALL, 0, number, i));
    }
    y.due(BAD_LINE, line(3, 0, ALL, 0, 4, 0), line(3, 0, ALL, 0, 4, 3));

    lineArguments();
  }

  private static void lineArguments() {
    says("12: a LINE of F feet (1 .. 8)");
    new Book().list("i", 1, 0).due(0, line(1, 1, ALL, 0, 0, 0), line(8, 8, ALL, 0, 0, 7))
        .due(NONE, line(8, 8, ALL, 0, 0, 8));
    for (int feet : beside(1, 8)) badLine(line(feet, 0, ALL, 0, 0, 0));

    says("12: a SUM y (0 .. 3000)");
    new Book().list("mmm", 1, 0).list("mmmi", 1, 0).list("a", 1, 0).due(0, line(1, 3000, ALL, 0, 0, 0))
        .due(2, line(1, 0, ALL, 0, 0, 0)).due(BAD_LINE, line(1, 3001, ALL, 0, 0, 0), line(1, 3000, ALL, 0, 1, 0));
    for (int y : beside(0, 3000)) badLine(line(1, y, ALL, 0, 0, 0));

    says("12: COUNTINGS 0 .. 2");
    new Book().list("a", 1, 0).list("XXx", 1, 0).due(1, line(1, 30, 0, 0, 0, 0), line(1, 20, 1, 0, 0, 0),
        line(1, 10, 2, 0, 0, 0))
        .due(BAD_LINE, line(1, 20, 0, 0, 0, 0), line(1, 10, 1, 0, 0, 0), line(1, 30, 2, 0, 0, 0));
    for (int counting : beside(0, 2)) badLine(line(1, 0, counting, 0, 0, 0));

    says("12: a CUSTOM, 0 .. 3");
    new Book().list("a", 1, 0).list("x", 1, 0).due(10, value(0, 'x', 1), value(3, 'x', 5))
        .due(1, line(1, 1, ALL, 0, 0, 0),
        line(1, 10, ALL, 1, 0, 0), line(1, 10, ALL, 2, 0, 0), line(1, 5, ALL, 3, 0, 0));
    for (int custom : beside(0, 3)) badLine(line(1, 0, ALL, custom, 0, 0));
  }

  // ---- promise 13

  private static void doubles() {
    says("13: feet 1 .. 5");
    new Book().listEach("abefghjkno").due(10, doubles(1, 0, 0, ALL, 0, 1)).due(100000, doubles(5, 0, 0, ALL, 0, 1));
    for (int feet : beside(1, 5)) bad(doubles(feet, 0, 0, ALL, 0, 1));
    bad(doubles(0, 0, 0, ALL, 0, 1), doubles(7, 0, 0, ALL, 0, 1), doubles(8, 0, 0, ALL, 0, 1));

    says("13: FEET together F, no fewer and no more");
    long[] ofAllFeet = {1, 2, 4, 7, 13};
    Book x = new Book().list("a", 3, 0).list("b", 2, 1).list("e", 1, 2);
    Book y = new Book().list("a", 3, 0);
    for (int feet = 1; feet <= 5; feet++) {
      x.due(ofAllFeet[feet - 1], doubles(feet, 0, 0, ALL, 0, 1));
      y.due(feet == 3 ? 1 : 0, doubles(feet, 0, 0, ALL, 0, 1));
    }

    says("13: SUMS y and z (0 .. 3000)");
    Book z = new Book().list("mmm", 1, 0).list("mmmi", 1, 0).list("a", 1, 0).due(1000, value(1, 'm', 0));
    z.due(1, doubles(1, 3000, 0, ALL, 0, 1), doubles(1, 0, 3000, ALL, 1, 0), doubles(1, 0, 0, ALL, 0, 1));
    z.due(1, doubles(1, 3000, 3000, ALL, 0, 2))
        .due(0, doubles(1, 3000, 3000, ALL, 0, 1), doubles(1, 2999, 0, ALL, 0, 1));
    z.due(2, doubles(2, 3000, 3000, ALL, 0, 2), doubles(2, 3000, 0, ALL, 0, 1));
    for (int sum : beside(0, 3000)) bad(doubles(1, sum, 0, ALL, 0, 1), doubles(1, 0, sum, ALL, 0, 1));

    says("13: COUNTINGS 0 .. 2");
    new Book().list("XXx", 1, 0).due(1, doubles(2, 60, 60, 0, 0, 1), doubles(2, 40, 40, 1, 0, 1),
        doubles(2, 20, 20, 2, 0, 1)).due(0, doubles(2, 40, 40, 0, 0, 1), doubles(2, 60, 60, 2, 0, 1));
    for (int counting : beside(0, 2)) bad(doubles(1, 0, 0, counting, 0, 1));

    says("13: a CUSTOM and another one, 0 .. 3");
    new Book().list("x", 1, 0).due(10, value(0, 'x', 1), value(3, 'x', 5)).due(1, doubles(2, 2, 10, ALL, 0, 3),
        doubles(2, 10, 2, ALL, 3, 0), doubles(2, 20, 20, ALL, 1, 2), doubles(2, 10, 10, ALL, 3, 3))
        .due(0, doubles(2, 2, 10, ALL, 3, 0), doubles(2, 2, 10, ALL, 0, 2), doubles(2, 2, 10, ALL, 1, 3));
    for (int custom : beside(0, 3)) bad(doubles(1, 0, 0, ALL, custom, 1), doubles(1, 0, 0, ALL, 0, custom));
  }

  // ---- promise 14

  private static void parts() {
    says("Terms: parts between blanks, none of them empty");
    String[] texts = {"", " ", "        ", "a", " a", "a ", "  a  ", "ab", "a b", "a  b", " a  b ", "? ?", "a?b c"};
    int[] numbers = {0, 0, 0, 1, 1, 1, 1, 1, 2, 2, 2, 2, 2};
    for (int k = 0; k < texts.length; k++) {
      new Book().write(texts[k]).due(numbers[k], count(2)).due(BAD, fit(numbers[k]));
    }

    says("Terms: parts between blanks, also if they come one behind the other");
    new Book().write("a").write("b").due(1, count(2)).write(" ").due(1, count(2)).write(" ").due(1, count(2)).write("c")
        .due(2, count(2)).write("d").due(2, count(2));

    says("Terms: parts of a full DRAFT");
    new Book().write(TWENTY_PARTS + " ").due(20, count(2)).due(0, fit(19)).due(BAD, fit(20));
    new Book().write(" " + TWENTY_PARTS).due(20, count(2)).due(0, fit(19)).due(BAD, fit(20));
    new Book().write(M40).due(1, count(2)).due(0, fit(0)).due(BAD, fit(1));
    new Book().write(" ".repeat(40)).due(0, count(2)).due(BAD, fit(0));
  }

  private static void fit() {
    says("14: BAD: there is no such part");
    Book x = new Book().listEach("abe").due(BAD, fit(0));
    x.write("a").due(1, fit(0)).due(BAD, fit(1), fit(-1)).write(" ?").due(3, fit(1)).due(BAD, fit(2)).rewrite(" ")
        .due(BAD, fit(0));
    for (int i : beside(0, 19)) bad(fit(i));
    refused(Stage.NEW, BAD, fit(0));
    refused(Stage.FULL_OF_BLANKS, BAD, fit(0), fit(1), fit(39));
    refused(Stage.LISTED, BAD, fit(4));
    refused(Stage.FULL_LIST, BAD, fit(1));

    says("14: how many VOCABLES FIT: none and all");
    new Book().write("?").due(0, fit(0));
    new Book().listEach("abefghjkno").write("? a A ?? z").due(10, fit(0)).due(1, fit(1)).due(0, fit(2), fit(3), fit(4));

    says("Terms: FITS, if they are as long");
    String eight = "abcdefgh";
    for (int n = 1; n <= 8; n++) {
      Book y = new Book().list(eight.substring(0, n), 1, 0);
      for (int wide = 1; wide <= 9; wide++) {
        y.rewrite("?????????".substring(0, wide)).due(wide == n ? 1 : 0, fit(0), readingsCall());
      }
    }
    new Book().list(eight, 1, 0).write(eight).due(1, fit(0)).write("i").due(0, fit(0));

    says("Terms: FITS, if each byte of the part that is not ? is the same");
    for (int place = 0; place < 8; place++) {
      StringBuilder broken = new StringBuilder(eight);
      broken.setCharAt(place, '?');
      StringBuilder other = new StringBuilder("????????");
      other.setCharAt(place, Character.toUpperCase(eight.charAt(place)));
      StringBuilder same = new StringBuilder("????????");
      same.setCharAt(place, eight.charAt(place));
      new Book().list(eight, 1, 0).write(broken.toString()).due(1, fit(0)).rewrite(other.toString()).due(0, fit(0))
          .rewrite(same.toString()).due(1, fit(0));
    }
  }

  // ---- promise 15

  private static void readings() {
    says("15: STATE: THE DRAFT has no parts");
    new Book().due(STATE, readingsCall()).write(" ").due(STATE, readingsCall()).write("?").due(0, readingsCall())
        .rewrite(" ".repeat(40)).due(STATE, readingsCall());
    refused(Stage.NEW, STATE, readingsCall());
    refused(Stage.FULL_OF_BLANKS, STATE, readingsCall());

    says("15: 2000000000 at most are told");
    Book x = new Book().listEach("aaaaaaaabb");
    x.write("? ? a a a a a a a a").due(1677721600, readingsCall());
    x.rewrite("? ? ? ? ? ? ? ? ?").due(1000000000, readingsCall());
    x.write(" b").due(MOST_TOLD, readingsCall());
    x.rewrite("b a a a a a a a a a a").due(MOST_TOLD, readingsCall());
    x.write(" b").due(MOST_TOLD, readingsCall());
    x.write(" b b").due(MOST_TOLD, readingsCall());
    for (int parts = 10; parts <= 20; parts++) {
      x.rewrite(TWENTY_PARTS.substring(0, 2 * parts - 1)).due(MOST_TOLD, readingsCall());
    }
    x.rewrite("a a a a a a a a a a a a a a a a a a a a").due(MOST_TOLD, readingsCall());

    says("15: far more than 2000000000, and then LOST");
    x.rewrite("? ? ? ? ? ? ? ? ? ? ? ? ? ? ? ? ? ? ? e").due(0, readingsCall());
    x.rewrite("e ? ? ? ? ? ? ? ? ? ? ? ? ? ? ? ? ? ? ?").due(0, readingsCall());

    says("15: far more than 2000000000, of which few may go on");
    Book y = new Book().list("a", 1, 0).list("b", 1, 1).list("e", 1, 2);
    y.list("a", 1, 0).list("a", 1, 0).list("a", 1, 0).list("a", 1, 0).list("a", 1, 0).list("a", 1, 0).list("a", 1, 0);
    y.due(7, order(0, 1), order(1, 4));
    // Behind an a there is only a: what ends with b is made of b and e, no two of b together, as Fibonacci counts.
    y.write("? ? ? ? ? ? ? ? ? ? ? ? ? ? ? ? ? ? ? b").due(6765, readingsCall());
    y.rewrite("b ? ? ? ? ? ? ? ? ? ? ? ? ? ? ? ? e").due(1597, readingsCall());

    says("15: 0: LOST");
    new Book().write("a").due(0, readingsCall()).rewrite("").list("a", 1, 0).write("b").due(0, readingsCall())
        .rewrite("aa").due(0, readingsCall()).rewrite("a b").due(0, readingsCall()).rewrite("a").due(1, readingsCall());

    says("Terms: a READING: by THE ORDER, at the beginning and behind each");
    new Book().list("a", 1, 0).list("b", 1, 1).due(7, order(BEGINNING, 1), order(0, 2), order(1, 0)).write("a")
        .due(1, readingsCall()).write(" b").due(1, readingsCall()).write(" a").due(0, readingsCall()).rewrite("b")
        .due(0, readingsCall()).rewrite("a a").due(0, readingsCall());
  }

  // ---- promise 16

  private static void told(Book x, int number, int least, int greatest, int sure) {
    x.due(number, years(ALL, 0, 0)).due(least, years(ALL, 0, 1)).due(greatest, years(ALL, 0, 2))
        .due(sure, years(ALL, 0, 3));
  }

  private static void years() {
    says("16: COUNTINGS 0 .. 2");
    Book x = new Book().list("XXx", 1, 0).write("???");
    x.due(30, years(0, 0, 1)).due(20, years(1, 0, 1)).due(10, years(2, 0, 1));
    for (int counting : beside(0, 2)) bad(years(counting, 0, 0));

    says("16: a CUSTOM, 0 .. 3");
    new Book().list("x", 1, 0).due(10, value(0, 'x', 1), value(3, 'x', 5)).write("? ?").due(2, years(ALL, 0, 1))
        .due(20, years(ALL, 1, 1), years(ALL, 2, 1)).due(10, years(ALL, 3, 1));
    for (int custom : beside(0, 3)) bad(years(ALL, custom, 0));

    says("16: what, 0 .. 3");
    Book y = new Book().listEach("ivx").write("?");
    told(y, 3, 1, 10, 0);
    for (int what : beside(0, 3)) bad(years(ALL, 0, what));

    says("16: STATE: THE DRAFT has no parts");
    for (int what = 0; what < 4; what++) {
      refused(Stage.NEW, STATE, years(ALL, 0, what), years(ONCE, 3, what));
      refused(Stage.FULL_OF_BLANKS, STATE, years(ALL, 0, what), years(ONCE, 3, what));
    }
    new Book().write(" ").due(STATE, years(ALL, 0, 0)).write("?").due(0, years(ALL, 0, 0));

    yearsUpTo3000();
    eachYear();
    sure();
  }

  private static void yearsUpTo3000() {
    says("Terms: those up to 3000 are led");
    Book x = new Book().list("mmdcccc", 1, 0).list("lxxxx", 1, 0).list("viiii", 1, 0).list("xAAAA", 1, 0);
    x.list("xiAAA", 1, 0).list("xviii", 1, 0).list("mmmmmmmm", 1, 0);
    told(x.write("mmdcccc lxxxx v????"), 1, 2999, 2999, 1);
    told(x.rewrite("mmdcccc lxxxx xA???"), 1, 3000, 3000, 1);
    told(x.rewrite("mmdcccc lxxxx x????"), 1, 3000, 3000, 1);
    x.due(3, readingsCall());
    told(x.rewrite("mmdcccc lxxxx ?????"), 2, 2999, 3000, 0);

    says("16: NONE: there is none");
    told(x.rewrite("mmdcccc lxxxx xi???"), 0, NONE, NONE, 0);
    told(x.rewrite("mmdcccc lxxxx xv???"), 0, NONE, NONE, 0);
    x.due(1, readingsCall());
    told(x.rewrite("???????? ????????"), 0, NONE, NONE, 0);
    x.due(1, readingsCall());
    told(x.rewrite("z"), 0, NONE, NONE, 0);
    x.due(0, readingsCall());
    told(x.rewrite("?????????"), 0, NONE, NONE, 0);

    says("16: the least is 0");
    told(new Book().listEach("abe").write(TWENTY_PARTS), 1, 0, 0, 1);
  }

  /** Each year as a stone of its own that names it in letters; 17 parts at most. */
  private static void eachYear() {
    says("16: each year 1 .. 3000, and none behind it");
    Book x = null;
    for (int year = 1; year <= 3010; year++) {
      if (x == null || x.calls > MOST_CALLS - 20) x = new Book().listEach("mdclxvi");
      x.rewrite(named(year));
      if (year <= 3000) x.due(year, years(ALL, 0, 1), years(ALL, 0, 2)).due(1, years(ALL, 0, 0));
      else told(x, 0, NONE, NONE, 0);
    }
  }

  private static String named(int year) {
    StringBuilder text = new StringBuilder();
    int rest = year;
    for (int k = 7; k >= 1; k--) {
      for (; rest >= VALUES[k]; rest -= VALUES[k]) {
        text.append(text.length() == 0 ? "" : " ").append(" ivxlcdm".charAt(k));
      }
    }
    return text.toString();
  }

  private static void sure() {
    says("Terms: SURE: just one YEAR");
    Book x = new Book().listEach("aixx");
    told(x.write("a"), 1, 0, 0, 1);
    told(x.rewrite("i"), 1, 1, 1, 1);
    told(x.rewrite("?"), 3, 0, 10, 0);
    told(x.rewrite("z"), 0, NONE, NONE, 0);

    says("Terms: SURE: just one YEAR, of two READINGS with one SUM");
    told(x.rewrite("x").due(2, readingsCall()), 1, 10, 10, 1);
    told(x.rewrite("x x").due(4, readingsCall()), 1, 20, 20, 1);

    says("Terms: SURE: two READINGS with two SUMS are two YEARS");
    told(new Book().listEach("ai").write("?").due(2, readingsCall()), 2, 0, 1, 0);
  }

  // ---- promise 17

  private static void borne() {
    says("17: a year 0 .. 60000");
    new Book().due(4095, borne(0)).due(0, borne(1), borne(60000)).write("m").due(0, borne(60000))
        .due(0b001001001001, borne(1000));
    for (int year : beside(0, 60000)) bad(borne(year));

    says("17: the greatest SUM of THE DRAFT");
    new Book().write(M40).due(0b011011011011, borne(40000)).due(0b100100100100, borne(1000))
        .due(0, borne(39999), borne(40001));

    says("Terms: bit of 3 times the CUSTOM and the COUNTING");
    for (int custom = 0; custom < 4; custom++) {
      Book x = new Book().write("XXx").due(10, value(custom, 'x', 100));
      for (int counting = ALL; counting <= ONCE; counting++) {
        int alone = 1 << 3 * custom + counting;
        int others = (0b001001001001 << counting) & ~alone;
        x.due(alone, borne(300 - 100 * counting)).due(others, borne(30 - 10 * counting));
      }
    }

    says("Terms: ? counts as no letter");
    new Book().write("?").due(4095, borne(0)).rewrite("X?X?").due(4095, borne(20)).due(0, borne(10));

    says("Terms: 0: forged");
    new Book().write("M").due(0, borne(0), borne(999), borne(1001)).due(4095, borne(1000));
  }

  // ---- promise 18

  private static void count() {
    says("18: 0 VOCABLES, 1 bytes of THE DRAFT, 2 its parts, 3 broken letters, and no more");
    new Book().list("a", 1, 0).write("? a? ???b ?").due(1, count(0)).due(11, count(1)).due(4, count(2))
        .due(6, count(3));
    for (int what : beside(0, 3)) bad(count(what));

    says("18: empty");
    new Book().due(0, count(0), count(1), count(2), count(3)).write(" ").due(0, count(0), count(2), count(3))
        .due(1, count(1));

    says("18: full");
    new Book().listEach("abcdefghij").due(10, count(0)).write("?".repeat(40)).due(40, count(1), count(3))
        .due(1, count(2)).rewrite(TWENTY_PARTS).due(20, count(2), count(3)).due(39, count(1));
  }

  // ---- promise 19

  private static void trace() {
    says("19: numbers come to THE TRACE as often as worth() asks that body");
    new Book().due(1000, worth(ALL, 0, 'm', ' ')).due(1, traceCall()).due(0, worth(MARKED, 0, 'm', ' '))
        .due(12, traceCall()).due(0, worth(ONCE, 0, 'm', ' ')).due(123, traceCall())
        .due(0, worth(ONCE, 0, 'M', 'M')).due(234, traceCall()).due(0, worth(ONCE, 0, '?', '?')).due(345, traceCall())
        .due(1000, worth(MARKED, 0, 'M', ' ')).due(356, traceCall());

    says("19: a refused worth() asks no body");
    new Book().due(BAD, worth(3, 0, 'm', ' '), worth(ONCE, 4, 'm', ' '), worth(ONCE, 0, 256, ' '))
        .due(BAD, worth(ONCE, 0, 'm', -1), worth(ONCE, 0, 'm', 256)).due(0, traceCall());

    says("19: THE TRACE: as often as worth() asks, and no other call");
    Book x = Stage.ALL_FULL.make().due(0, traceCall());
    x.ask(value(0, 'm', 5));
    x.ask(sum(ONCE, 0));
    x.ask(many(8));
    x.ask(lines(2, 10, ONCE, 0));
    x.ask(line(2, 10, ONCE, 0, 0, 0));
    x.ask(doubles(2, 10, 10, ONCE, 0, 1));
    x.ask(fit(19));
    x.ask(readingsCall());
    x.ask(years(ONCE, 0, 0));
    x.ask(borne(10));
    x.ask(count(3));
    x.ask(about(9, 3));
    x.ask(order(0, 7));
    x.ask(clearCall());
    x.due(0, traceCall(), traceCall());
  }

  // ---- the first of these: BAD, STATE, FULL

  private static void firstOfTheRefusals() {
    says("4: BAD ahead of FULL");
    for (Stage stage : new Stage[] {Stage.FULL_DRAFT, Stage.FULL_OF_BLANKS, Stage.ALL_FULL}) {
      refused(stage, BAD, typed("1"), typed("aaaaaaa1"), typed("1aaaaaaa"), type(packed("a"), 0), type(packed("a"), 9));
      refused(stage, FULL, typed("a"), typed("aaaaaaaa"));
    }

    says("7: BAD ahead of STATE");
    for (Stage stage : new Stage[] {Stage.NEW, Stage.LISTED, Stage.FULL_DRAFT, Stage.FULL_OF_BLANKS}) {
      refused(stage, BAD, vocable(0, 0), vocable(4, 0), vocable(1, -1), vocable(1, 3), vocable(0, 3));
      refused(stage, STATE, vocable(1, 0));
    }

    says("7: BAD ahead of FULL");
    refused(Stage.FULL_LIST, BAD, vocable(0, 0), vocable(4, 0), vocable(1, -1), vocable(1, 3), vocable(0, 3));
    refused(Stage.FULL_LIST, FULL, vocable(1, 0));

    says("7: BAD ahead of STATE and FULL");
    refused(Stage.ALL_FULL, BAD, vocable(0, 0), vocable(4, 0), vocable(1, -1), vocable(1, 3), vocable(0, 3));

    says("7: STATE ahead of FULL");
    refused(Stage.ALL_FULL, STATE, vocable(1, 0), vocable(3, 2));
    new Book().listEach("abcdefghij").due(STATE, vocable(1, 0)).write("abcdefgh").due(FULL, vocable(1, 0)).write("i")
        .due(STATE, vocable(1, 0)).rewrite("?").due(STATE, vocable(1, 0));

    says("16: BAD ahead of STATE");
    for (Stage stage : new Stage[] {Stage.NEW, Stage.FULL_OF_BLANKS}) {
      refused(stage, BAD, years(-1, 0, 0), years(3, 0, 0), years(0, -1, 0), years(0, 4, 0));
      refused(stage, BAD, years(0, 0, -1), years(0, 0, 4));
      refused(stage, STATE, years(0, 0, 0), years(2, 3, 3));
    }

    says("14: no part is BAD, not STATE");
    refused(Stage.NEW, BAD, fit(0));
    refused(Stage.FULL_OF_BLANKS, BAD, fit(0));

    says("12: no such LINE, ahead of NONE");
    new Book().list("a", 1, 0).due(NONE, line(1, 0, ALL, 0, 0, 1)).due(BAD_LINE, line(1, 0, ALL, 0, 1, 1),
        line(1, 0, ALL, 0, -1, 1), line(1, 5, ALL, 0, 0, 1), line(9, 0, ALL, 0, 0, 1), line(1, 0, 3, 0, 0, 1));
  }
}
