import java.lang.reflect.Constructor;
import java.lang.reflect.Field;
import java.lang.reflect.Method;
import java.lang.reflect.Modifier;
import java.util.ArrayList;
import java.util.Collections;
import java.util.List;

/** Each promise of the document by hand: ordinary inputs, the edges that it names, and wrong inputs. */
public final class VerseYearsPromises {
  private static final int BAD = -1, STATE = -2, FULL = -3, NONE = -9, BAD_LINE = -2;
  private static final int LOW = Integer.MIN_VALUE, HIGH = Integer.MAX_VALUE;
  private static int wrong = 0;

  private static void due(String what, long got, long want) {
    if (got != want) {
      wrong++;
      System.out.println(what + " answered " + got + ", due is " + want);
    }
  }

  private static void write(VerseYears x, String text) {
    for (int at = 0; at < text.length(); at += 8) {
      int to = Math.min(at + 8, text.length());
      due("type " + text, x.type(packed(text.substring(at, to)), to - at), x.count(1));
    }
  }

  private static long packed(String text) {
    long v = 0;
    for (int k = 0; k < text.length(); k++) v = v << 8 | text.charAt(k);
    return v;
  }

  private static int list(VerseYears x, String text, int feet, int sort) {
    write(x, text);
    return x.vocable(feet, sort);
  }

  private static void rewrite(VerseYears x, String text) {
    x.clear();
    write(x, text);
  }

  private static VerseYears withTenLetters(String letters) {
    VerseYears x = new VerseYears();
    for (int k = 0; k < 10; k++) list(x, letters.substring(k, k + 1), 1, k % 3);
    return x;
  }

  public static void main(String[] args) {
    face();
    newObject();
    value();
    worthAndTrace();
    type();
    clear();
    sum();
    vocable();
    about();
    order();
    many();
    lines();
    line();
    doubles();
    fit();
    readings();
    years();
    borne();
    count();
    nothingChangesWhenRefused();
    linesFollowEveryChange();
    System.out.println(wrong == 0 ? "all promises hold" : wrong + " answers are not as due");
    if (wrong != 0) System.exit(1);
  }

  private static void face() {
    List<String> members = new ArrayList<>();
    for (Field f : VerseYears.class.getDeclaredFields()) {
      if (!Modifier.isPrivate(f.getModifiers())) members.add(f.toString());
    }
    for (Method m : VerseYears.class.getDeclaredMethods()) {
      if (!Modifier.isPrivate(m.getModifiers())) members.add(m.toString());
    }
    for (Constructor<?> c : VerseYears.class.getDeclaredConstructors()) {
      if (!Modifier.isPrivate(c.getModifiers())) members.add(c.toString());
    }
    Collections.sort(members);
    List<String> face = new ArrayList<>();
    for (String name : new String[] {"BAD", "STATE", "FULL", "NONE"}) {
      face.add("public static final int VerseYears." + name);
    }
    for (String call : new String[] {
        "int VerseYears.value(int,int,int)", "int VerseYears.worth(int,int,int,int)", "int VerseYears.type(long,int)",
        "int VerseYears.clear()", "int VerseYears.sum(int,int)", "int VerseYears.vocable(int,int)",
        "int VerseYears.about(int,int)", "int VerseYears.order(int,int)", "long VerseYears.many(int)",
        "long VerseYears.lines(int,int,int,int)", "int VerseYears.line(int,int,int,int,long,int)",
        "long VerseYears.doubles(int,int,int,int,int,int)", "int VerseYears.fit(int)", "int VerseYears.readings()",
        "int VerseYears.years(int,int,int)", "int VerseYears.borne(int)", "int VerseYears.count(int)",
        "long VerseYears.trace()", "VerseYears()"}) {
      face.add("public " + call);
    }
    Collections.sort(face);
    if (!members.equals(face)) {
      wrong++;
      System.out.println("the face is " + members + ", due is " + face);
    }
    due("the class is final", Modifier.isFinal(VerseYears.class.getModifiers()) ? 1 : 0, 1);
    due("BAD", VerseYears.BAD, BAD);
    due("STATE", VerseYears.STATE, STATE);
    due("FULL", VerseYears.FULL, FULL);
    due("NONE", VerseYears.NONE, NONE);
  }

  private static void newObject() {
    VerseYears x = new VerseYears();
    for (int what = 0; what < 4; what++) due("1 count", x.count(what), 0);
    due("1 trace", x.trace(), 0);
    for (int place = 0; place < 4; place++) due("1 order", x.order(place, 7), 7);
    for (int custom = 0; custom < 4; custom++) {
      for (int letter = 'a'; letter <= 'z'; letter++) {
        int at = "ivxlcdm".indexOf(letter);
        int first = at < 0 ? 0 : new int[] {1, 5, 10, 50, 100, 500, 1000}[at];
        due("1 worth", x.worth(0, custom, letter, ' '), first);
        due("1 worth of a capital", x.worth(0, custom, letter - 32, ' '), first);
      }
    }
    for (int feet = 1; feet <= 8; feet++) due("1 many", x.many(feet), 0);
    due("1 lines", x.lines(1, 0, 0, 0), 0);
    due("1 doubles", x.doubles(1, 0, 0, 0, 0, 1), 0);
    due("1 line", x.line(1, 0, 0, 0, 0, 0), BAD_LINE);
  }

  private static void value() {
    VerseYears x = new VerseYears();
    int was = 0;
    for (int v : new int[] {0, 1, 5, 10, 50, 100, 500, 1000}) {
      due("2 value", x.value(3, 'a', v), was);
      due("2 worth", x.worth(0, 3, 'a', ' '), v);
      due("2 worth of the capital", x.worth(0, 3, 'A', ' '), v);
      was = v;
    }
    due("2 another custom keeps its own", x.worth(0, 2, 'a', ' '), 0);
    due("2 value of z", x.value(0, 'z', 50), 0);
    due("2 value of m", x.value(0, 'm', 0), 1000);
    due("2 worth of m", x.worth(0, 0, 'M', ' '), 0);
    for (int v : new int[] {-1, 2, 4, 6, 9, 11, 49, 51, 99, 101, 499, 501, 999, 1001, LOW, HIGH}) {
      due("2 no such value", x.value(0, 'z', v), BAD);
    }
    for (int letter : new int[] {'a' - 1, 'z' + 1, 'A', 'Z', ' ', '?', 0, -1, 'a' + 256, LOW, HIGH}) {
      due("2 no such letter", x.value(0, letter, 1), BAD);
    }
    for (int custom : new int[] {-1, 4, LOW, HIGH}) due("2 no such custom", x.value(custom, 'a', 1), BAD);
    due("2 refused, nothing changes", x.value(0, 'z', 1), 50);
  }

  private static void worthAndTrace() {
    VerseYears x = new VerseYears();
    due("3 ALL", x.worth(0, 0, 'x', 'x'), 10);
    due("19 ALL", x.trace(), 1);
    due("3 MARKED, small", x.worth(1, 0, 'x', ' '), 0);
    due("19 MARKED asks ALL of a small letter too", x.trace(), 12);
    due("3 MARKED, capital", x.worth(1, 0, 'X', 'X'), 10);
    due("19 MARKED", x.trace(), 23);
    due("3 ONCE, small", x.worth(2, 0, 'x', ' '), 0);
    due("3 ONCE, capital", x.worth(2, 0, 'X', ' '), 10);
    due("3 ONCE, its small letter ahead", x.worth(2, 0, 'X', 'x'), 10);
    due("3 ONCE, the same ahead", x.worth(2, 0, 'X', 'X'), 0);
    due("19 ONCE asks all three", x.trace(), 23 + 4 * 111);
    for (int b = 0; b < 256; b += 17) {
      if (Character.isLetter(b) && b < 128) continue;
      long before = x.trace();
      due("3 no letter", x.worth(0, 0, b, 255), 0);
      due("3 no letter", x.worth(1, 0, b, 0), 0);
      due("3 no letter", x.worth(2, 0, b, b), 0);
      due("19 the bodies are asked for bytes that are no letters", x.trace() - before, 123);
    }
    long before = x.trace();
    for (int n : new int[] {-1, LOW, HIGH}) {
      due("3 counting", x.worth(n, 0, 'x', ' '), BAD);
      due("3 custom", x.worth(0, n, 'x', ' '), BAD);
      due("3 letter", x.worth(0, 0, n, ' '), BAD);
      due("3 ahead", x.worth(0, 0, 'x', n), BAD);
    }
    due("3 counting 3", x.worth(3, 0, 'x', ' '), BAD);
    due("3 custom 4", x.worth(0, 4, 'x', ' '), BAD);
    due("3 letter 256", x.worth(0, 0, 256, ' '), BAD);
    due("3 ahead 256", x.worth(0, 0, 'x', 256), BAD);
    write(x, "XVI MM");
    x.sum(2, 0);
    x.borne(1);
    x.years(2, 0, 0);
    x.lines(1, 0, 2, 0);
    x.doubles(1, 0, 0, 2, 0, 1);
    due("19 only worth() asks for the trace", x.trace(), before);
  }

  private static void type() {
    VerseYears x = new VerseYears();
    due("4 the highest of the lowest bytes first", x.type(packed("!xy"), 2), 2);
    due("4 vocable", x.vocable(1, 0), 0);
    due("4 first letter", x.about(0, 3), 'x');
    due("4 all that may stand", x.type(packed("azAZ ?"), 6), 6);
    for (int b = 0; b < 256; b++) {
      boolean may = b == ' ' || b == '?' || b >= 'a' && b <= 'z' || b >= 'A' && b <= 'Z';
      VerseYears y = new VerseYears();
      due("4 byte " + b, y.type(b, 1), may ? 1 : BAD);
      due("4 bytes with " + b, y.type((long) b << 56 | packed("aaaaaaa"), 8), may ? 9 : BAD);
    }
    x.clear();
    for (int n : new int[] {0, -1, 9, LOW, HIGH}) due("4 n", x.type(packed("a"), n), BAD);
    due("4 a byte of 0 may not stand", x.type(packed("a"), 2), BAD);
    for (int k = 1; k <= 5; k++) due("4 eight more", x.type(packed("ab cd?ef"), 8), 8 * k);
    due("4 FULL", x.type('a', 1), FULL);
    due("4 BAD ahead of FULL", x.type('1', 1), BAD);
    x.clear();
    for (int k = 1; k <= 4; k++) x.type(packed("aaaaaaaa"), 8);
    x.type(packed("aaaaaaa"), 7);
    due("4 FULL takes none of them", x.type(packed("aa"), 2), FULL);
    due("4 up to 40", x.type('a', 1), 40);
  }

  private static void clear() {
    VerseYears x = new VerseYears();
    due("5 empty", x.clear(), 0);
    write(x, "a ?b");
    due("5 clear", x.clear(), 4);
    for (int what = 1; what < 4; what++) due("5 count", x.count(what), 0);
    due("5 again", x.clear(), 0);
  }

  private static void sum() {
    VerseYears x = new VerseYears();
    due("6 empty", x.sum(0, 0), 0);
    write(x, "MM mm?M XxX");
    due("6 ALL", x.sum(0, 0), 5030);
    due("6 MARKED", x.sum(1, 0), 3020);
    due("6 ONCE", x.sum(2, 0), 2020);
    x.value(2, 'x', 500);
    due("6 another custom", x.sum(1, 2), 4000);
    due("6 the first custom", x.sum(1, 0), 3020);
    rewrite(x, "MMMMMMMMMMMMMMMMMMMMMMMMMMMMMMMMMMMMMMMM");
    due("6 the greatest", x.sum(0, 0), 40000);
    due("6 ONCE", x.sum(2, 3), 1000);
    for (int n : new int[] {-1, 4, LOW, HIGH}) {
      due("6 counting", x.sum(n, 0), BAD);
      due("6 custom", x.sum(0, n), BAD);
    }
    due("6 counting 3", x.sum(3, 0), BAD);
  }

  private static void vocable() {
    VerseYears x = new VerseYears();
    due("7 an empty draft", x.vocable(1, 0), STATE);
    for (String text : new String[] {" ", "?", "a ", " a", "a b", "a?", "abcdefghi"}) {
      rewrite(x, text);
      due("7 " + text, x.vocable(1, 0), STATE);
      due("7 the draft stays", x.count(1), text.length());
    }
    for (int n : new int[] {0, 4, -1, LOW, HIGH}) due("7 feet, BAD ahead of STATE", x.vocable(n, 0), BAD);
    for (int n : new int[] {3, -1, LOW, HIGH}) due("7 sort, BAD ahead of STATE", x.vocable(1, n), BAD);
    rewrite(x, "abcdefgh");
    due("7 eight letters", x.vocable(3, 2), 0);
    due("7 the draft is empty", x.count(1), 0);
    due("7 no parts", x.count(2), 0);
    for (int k = 1; k < 10; k++) due("7 number", list(x, "aZ", 1, 0), k);
    due("7 STATE ahead of FULL", x.vocable(1, 0), STATE);
    write(x, "a");
    due("7 BAD ahead of FULL", x.vocable(1, 3), BAD);
    due("7 FULL", x.vocable(1, 0), FULL);
    due("7 the draft stays", x.count(1), 1);
    due("7 ten", x.count(0), 10);
  }

  private static void about() {
    VerseYears x = new VerseYears();
    due("8 none yet", x.about(0, 0), BAD);
    list(x, "Qabcdefg", 3, 2);
    list(x, "z", 1, 0);
    int[][] all = {{8, 3, 2, 'Q'}, {1, 1, 0, 'z'}};
    for (int v = 0; v < 2; v++) {
      for (int what = 0; what < 4; what++) due("8 about", x.about(v, what), all[v][what]);
    }
    for (int n : new int[] {-1, LOW, HIGH}) {
      due("8 vocable", x.about(n, 0), BAD);
      due("8 what", x.about(0, n), BAD);
    }
    due("8 vocable 2", x.about(2, 0), BAD);
    due("8 what 4", x.about(0, 4), BAD);
  }

  private static void order() {
    VerseYears x = new VerseYears();
    for (int place = 0; place < 4; place++) {
      due("9 order", x.order(place, place), 7);
      due("9 order again", x.order(place, 7), place);
      due("9 the empty set", x.order(place, 0), 7);
    }
    for (int n : new int[] {-1, LOW, HIGH}) {
      due("9 sort", x.order(n, 0), BAD);
      due("9 set", x.order(0, n), BAD);
    }
    due("9 sort 4", x.order(4, 0), BAD);
    due("9 set 8", x.order(0, 8), BAD);
    due("9 refused, nothing changes", x.order(0, 7), 0);
  }

  private static void many() {
    VerseYears x = withTenLetters("abcdefghij");
    long power = 1;
    for (int feet = 1; feet <= 8; feet++) {
      power *= 10;
      due("10 ten of one foot", x.many(feet), power);
    }
    for (int n : new int[] {0, 9, -1, LOW, HIGH}) due("10 feet", x.many(n), -1);
    VerseYears y = new VerseYears();
    list(y, "a", 1, 0);
    list(y, "b", 2, 1);
    list(y, "c", 3, 2);
    long[] compositions = {1, 2, 4, 7, 13, 24, 44, 81};
    for (int feet = 1; feet <= 8; feet++) due("10 feet added up", y.many(feet), compositions[feet - 1]);
    y.order(0, 2);
    y.order(1, 1);
    y.order(3, 1);
    due("10 a b a b a has 7 feet", y.many(7), 1);
    due("10 a b a b has 6 feet", y.many(6), 1);
    due("10 none has 8 feet", y.many(8), 0);
  }

  private static void lines() {
    VerseYears x = new VerseYears();
    list(x, "MM", 1, 0);
    list(x, "m", 1, 1);
    list(x, "mmm", 2, 2);
    due("11 ALL 3000", x.lines(2, 3000, 0, 0), 3);
    due("11 ALL 2000", x.lines(2, 2000, 0, 0), 1);
    due("11 MARKED 2000", x.lines(2, 2000, 1, 0), 2);
    due("11 ONCE 1000", x.lines(2, 1000, 2, 0), 2);
    due("11 a blank stands between two of them", x.lines(2, 2000, 2, 0), 1);
    due("11 MARKED 0", x.lines(2, 0, 1, 0), 2);
    x.value(3, 'm', 1);
    due("11 custom 3", x.lines(2, 3, 0, 3), 3);
    due("11 the letters of 'MM MM' by custom 3", x.lines(2, 4, 0, 3), 1);
    VerseYears y = withTenLetters("abcdefghij");
    due("11 all of them", y.lines(8, 0, 2, 0), 100000000);
    due("11 i counts once each", y.lines(8, 8, 0, 0), 1);
    due("11 d and two of c", y.lines(3, 700, 0, 0), 3);
    for (int n : new int[] {-1, LOW, HIGH}) {
      due("11 feet", y.lines(n, 0, 0, 0), -1);
      due("11 y", y.lines(1, n, 0, 0), -1);
      due("11 counting", y.lines(1, 0, n, 0), -1);
      due("11 custom", y.lines(1, 0, 0, n), -1);
    }
    due("11 feet 0", y.lines(0, 0, 0, 0), -1);
    due("11 feet 9", y.lines(9, 0, 0, 0), -1);
    due("11 y 3001", y.lines(8, 3001, 0, 0), -1);
    due("11 counting 3", y.lines(1, 0, 3, 0), -1);
    due("11 custom 4", y.lines(1, 0, 0, 4), -1);
  }

  private static void line() {
    VerseYears x = withTenLetters("abefghjkno");
    due("12 all are worth 0", x.lines(8, 0, 0, 0), 100000000);
    for (int i = 0; i < 8; i++) {
      due("12 the digits of its number", x.line(8, 0, 0, 0, 90817263, i), "90817263".charAt(i) - '0');
      due("12 the first one", x.line(8, 0, 0, 0, 0, i), 0);
      due("12 the last one", x.line(8, 0, 0, 0, 99999999, i), 9);
    }
    for (int i : new int[] {8, 9, HIGH}) due("12 it is shorter", x.line(8, 0, 0, 0, 5, i), NONE);
    for (int i : new int[] {-1, LOW}) due("12 no such place", x.line(8, 0, 0, 0, 5, i), BAD_LINE);
    for (long number : new long[] {100000000, -1, 1L << 32, Long.MIN_VALUE, Long.MAX_VALUE}) {
      due("12 no such line", x.line(8, 0, 0, 0, number, 0), BAD_LINE);
      due("12 no such line, nor place", x.line(8, 0, 0, 0, number, 100), BAD_LINE);
    }
    for (int n : new int[] {-1, LOW, HIGH}) {
      due("12 feet", x.line(n, 0, 0, 0, 0, 0), BAD_LINE);
      due("12 y", x.line(1, n, 0, 0, 0, 0), BAD_LINE);
      due("12 counting", x.line(1, 0, n, 0, 0, 0), BAD_LINE);
      due("12 custom", x.line(1, 0, 0, n, 0, 0), BAD_LINE);
    }
    due("12 feet 0", x.line(0, 0, 0, 0, 0, 0), BAD_LINE);
    due("12 feet 9", x.line(9, 0, 0, 0, 0, 0), BAD_LINE);
    due("12 y 3001", x.line(1, 3001, 0, 0, 0, 0), BAD_LINE);
    due("12 counting 3", x.line(1, 0, 3, 0, 0, 0), BAD_LINE);
    due("12 custom 4", x.line(1, 0, 0, 4, 0, 0), BAD_LINE);
    VerseYears y = new VerseYears();
    list(y, "x", 2, 1);
    list(y, "v", 1, 0);
    list(y, "v", 1, 0);
    y.order(1, 1);
    int[][] tens = {{1, 1, NONE}, {1, 2, NONE}, {2, 1, NONE}, {2, 2, NONE}};
    due("12 x and four of v v", y.lines(2, 10, 0, 0), 5);
    due("12 x", y.line(2, 10, 0, 0, 0, 0), 0);
    due("12 x alone", y.line(2, 10, 0, 0, 0, 1), NONE);
    for (int number = 0; number < 4; number++) {
      for (int i = 0; i < 3; i++) due("12 v v", y.line(2, 10, 0, 0, number + 1, i), tens[number][i]);
    }
  }

  private static void doubles() {
    VerseYears x = new VerseYears();
    list(x, "i", 1, 0);
    list(x, "V", 1, 1);
    x.value(1, 'i', 5);
    x.value(1, 'v', 1);
    due("13 i and V, either way", x.doubles(2, 6, 6, 0, 0, 1), 2);
    due("13 i i i V V", x.doubles(5, 13, 17, 0, 0, 1), 10);
    due("13 no line has both", x.doubles(5, 13, 13, 0, 0, 1), 0);
    due("13 a custom with itself", x.doubles(5, 13, 17, 0, 1, 1), 0);
    due("13 a custom with itself", x.doubles(5, 13, 13, 0, 0, 0), 10);
    due("13 MARKED", x.doubles(5, 10, 2, 1, 0, 1), 10);
    x.order(0, 2);
    due("13 by the order", x.doubles(5, 17, 13, 0, 0, 1), 6);
    for (int n : new int[] {-1, LOW, HIGH}) {
      due("13 feet", x.doubles(n, 0, 0, 0, 0, 0), -1);
      due("13 y", x.doubles(1, n, 0, 0, 0, 0), -1);
      due("13 z", x.doubles(1, 0, n, 0, 0, 0), -1);
      due("13 counting", x.doubles(1, 0, 0, n, 0, 0), -1);
      due("13 one", x.doubles(1, 0, 0, 0, n, 0), -1);
      due("13 other", x.doubles(1, 0, 0, 0, 0, n), -1);
    }
    due("13 feet 0", x.doubles(0, 0, 0, 0, 0, 0), -1);
    due("13 feet 6", x.doubles(6, 0, 0, 0, 0, 0), -1);
    due("13 y 3001", x.doubles(1, 3001, 0, 0, 0, 0), -1);
    due("13 z 3001", x.doubles(1, 0, 3001, 0, 0, 0), -1);
    due("13 counting 3", x.doubles(1, 0, 0, 3, 0, 0), -1);
    due("13 one 4", x.doubles(1, 0, 0, 0, 4, 0), -1);
    due("13 other 4", x.doubles(1, 0, 0, 0, 0, 4), -1);
    due("13 the most", withTenLetters("abefghjkno").doubles(5, 0, 0, 0, 2, 3), 100000);
    VerseYears y = new VerseYears();
    list(y, "mmm", 1, 0);
    due("13 sums of 3000", y.doubles(1, 3000, 3000, 0, 0, 1), 1);
  }

  private static void fit() {
    VerseYears x = new VerseYears();
    list(x, "abc", 1, 0);
    list(x, "aBc", 1, 0);
    list(x, "ab", 1, 0);
    list(x, "abcdefgh", 1, 0);
    due("14 no parts", x.fit(0), BAD);
    write(x, "  a?c ?? abc  A?? ???????? ?????????");
    int[] fitting = {2, 1, 1, 0, 1, 0};
    for (int i = 0; i < 6; i++) due("14 part " + i, x.fit(i), fitting[i]);
    for (int i : new int[] {6, -1, LOW, HIGH}) due("14 no such part", x.fit(i), BAD);
    rewrite(x, "   ");
    due("14 blanks are no part", x.fit(0), BAD);
  }

  private static void readings() {
    VerseYears x = withTenLetters("abcdefghij");
    due("15 no parts", x.readings(), STATE);
    write(x, "  ");
    due("15 blanks alone", x.readings(), STATE);
    rewrite(x, "? ? ? ? ? ? ? ? ?");
    due("15 told in full", x.readings(), 1000000000);
    for (int parts = 10; parts <= 20; parts++) {
      write(x, " ?");
      due("15 the most that is told, parts " + parts, x.readings(), 2000000000);
    }
    x.order(0, 0);
    x.order(1, 0);
    due("15 three go on at each part: 10 times 3 to the 19th", x.readings(), 2000000000);
    rewrite(x, "? ? ? ? ? ? ? ? ? ? ? ? ? ? ? ? ?");
    due("15 10 times 3 to the 16th, told in full", x.readings(), 430467210);
    rewrite(x, "? ?");
    due("15 three go on to ten", x.readings(), 30);
    rewrite(x, "a ?");
    due("15 LOST behind a", x.readings(), 0);
    rewrite(x, "??");
    due("15 LOST: none is as long", x.readings(), 0);
    rewrite(x, "c ? d");
    due("15 c, one of sort 2, d", x.readings(), 3);
    x.order(3, 3);
    due("15 the order at the beginning", x.readings(), 0);
  }

  private static void years() {
    VerseYears x = new VerseYears();
    due("16 no parts", x.years(0, 0, 0), STATE);
    due("16 BAD ahead of STATE", x.years(3, 0, 0), BAD);
    list(x, "mmm", 1, 0);
    list(x, "MMi", 1, 1);
    list(x, "abe", 1, 2);
    list(x, "mmmi", 1, 0);
    rewrite(x, "???");
    told(x, 0, 0, 3, 0, 3000, 0);
    told(x, 1, 0, 2, 0, 2000, 0);
    told(x, 2, 0, 2, 0, 1000, 0);
    rewrite(x, "m??");
    told(x, 0, 0, 1, 3000, 3000, 1);
    rewrite(x, "m???");
    told(x, 0, 0, 0, NONE, NONE, 0);
    due("16 it is read all the same", x.readings(), 1);
    told(x, 1, 0, 1, 0, 0, 1);
    rewrite(x, "??? ???");
    told(x, 0, 0, 3, 0, 3000, 0);
    rewrite(x, "M?? ???");
    told(x, 0, 0, 1, 2001, 2001, 1);
    x.order(1, 0);
    told(x, 0, 0, 0, NONE, NONE, 0);
    due("16 LOST", x.readings(), 0);
    x.value(3, 'm', 1);
    rewrite(x, "??? M??");
    told(x, 0, 3, 2, 3, 6, 0);
    for (int n : new int[] {-1, 4, LOW, HIGH}) {
      due("16 counting", x.years(n, 0, 0), BAD);
      due("16 custom", x.years(0, n, 0), BAD);
      due("16 what", x.years(0, 0, n), BAD);
    }
    due("16 counting 3", x.years(3, 0, 0), BAD);
    VerseYears y = new VerseYears();
    list(y, "a", 1, 0);
    list(y, "i", 1, 0);
    list(y, "x", 1, 0);
    rewrite(y, "? ? ? ? ? ? ? ? ? ? ? ? ? ? ? ? ? ? ? ?");
    told(y, 0, 0, elevensAndOnes(), 0, 200, 0);
  }

  /** How many sums i + 10 x there are with i and x at least 0 and i + x at most 20. */
  private static int elevensAndOnes() {
    boolean[] seen = new boolean[201];
    int number = 0;
    for (int i = 0; i <= 20; i++) {
      for (int tens = 0; i + tens <= 20; tens++) {
        if (!seen[i + 10 * tens]) number++;
        seen[i + 10 * tens] = true;
      }
    }
    return number;
  }

  private static void told(VerseYears x, int counting, int custom, int number, int least, int greatest, int sure) {
    due("16 how many", x.years(counting, custom, 0), number);
    due("16 the least", x.years(counting, custom, 1), least);
    due("16 the greatest", x.years(counting, custom, 2), greatest);
    due("16 SURE", x.years(counting, custom, 3), sure);
  }

  private static void borne() {
    VerseYears x = new VerseYears();
    due("17 empty", x.borne(0), 4095);
    due("17 empty", x.borne(1), 0);
    write(x, "XXx?");
    x.value(2, 'x', 100);
    due("17 ALL of three customs", x.borne(30), 1 | 1 << 3 | 1 << 9);
    due("17 MARKED", x.borne(20), 2 | 2 << 3 | 2 << 9);
    due("17 ONCE", x.borne(10), 4 | 4 << 3 | 4 << 9);
    due("17 ALL of custom 2", x.borne(300), 1 << 6);
    due("17 ONCE of custom 2", x.borne(100), 1 << 8);
    due("17 forged", x.borne(31), 0);
    rewrite(x, "mmmmmmmmmmmmmmmmmmmmmmmmmmmmmmmmmmmmmmmm");
    due("17 beyond 3000", x.borne(40000), 1 | 1 << 3 | 1 << 6 | 1 << 9);
    due("17 60000", x.borne(60000), 0);
    for (int n : new int[] {-1, 60001, LOW, HIGH}) due("17 year", x.borne(n), BAD);
  }

  private static void count() {
    VerseYears x = new VerseYears();
    list(x, "a", 1, 0);
    list(x, "b", 1, 0);
    write(x, "  a? ??  b ");
    int[] all = {2, 11, 3, 3};
    for (int what = 0; what < 4; what++) due("18 count", x.count(what), all[what]);
    for (int n : new int[] {4, -1, LOW, HIGH}) due("18 what", x.count(n), BAD);
    write(x, "c");
    due("18 a new part", x.count(2), 4);
    write(x, "c");
    due("18 the same part", x.count(2), 4);
    rewrite(x, "a b c d e f g h i j k l m n o p q r s t ");
    due("18 twenty parts", x.count(2), 20);
  }

  private static void nothingChangesWhenRefused() {
    VerseYears x = new VerseYears();
    list(x, "x", 1, 0);
    write(x, "x ?");
    x.value(0, 'x', 7);
    x.type(packed("x1"), 2);
    x.vocable(1, 0);
    x.vocable(0, 0);
    x.order(3, 9);
    x.worth(0, 9, 'x', ' ');
    due("the draft stays", x.count(1), 3);
    due("the vocables stay", x.count(0), 1);
    due("the value stays", x.years(0, 0, 1), 20);
    due("the order stays", x.order(3, 7), 7);
    due("the trace stays", x.trace(), 0);
  }

  private static void linesFollowEveryChange() {
    VerseYears x = new VerseYears();
    list(x, "x", 1, 0);
    due("lines", x.lines(3, 30, 0, 0), 1);
    list(x, "X", 1, 1);
    due("lines with a new vocable", x.lines(3, 30, 0, 0), 8);
    due("lines by another counting", x.lines(3, 30, 1, 0), 1);
    due("lines by the counting ahead", x.lines(3, 30, 0, 0), 8);
    x.order(1, 1);
    due("lines by another order", x.lines(3, 30, 0, 0), 5);
    due("the same by another custom", x.lines(3, 30, 0, 1), 5);
    x.value(1, 'x', 5);
    due("lines by another value, none", x.lines(3, 30, 0, 1), 0);
    due("lines by another value", x.lines(3, 15, 0, 1), 5);
    due("custom 0 has its own", x.lines(3, 30, 0, 0), 5);
    due("the last line", x.line(3, 15, 0, 1, 4, 2), 1);
    due("the last line", x.line(3, 15, 0, 1, 4, 1), 0);
  }
}
