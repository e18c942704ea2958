import java.util.ArrayList;
import java.util.Arrays;
import java.util.HashSet;
import java.util.List;
import java.util.NoSuchElementException;
import java.util.Set;
import java.util.TreeMap;
import java.util.regex.Matcher;
import java.util.regex.Pattern;

/**
 * The document again, as slow and plain as can be: one circuit at a time, every run from its START on,
 * a text's sign refused when no net's text goes on with it. Held against the program by ModelTest.
 */
final class Model {
  private static final String LETTER = "[a-l]";
  private static final String TOLD = "([!=]" + LETTER + "|[&|^nr]" + LETTER + "{2,3}|#" + LETTER + "[01]?)";
  private static final Pattern LINE = Pattern.compile(TOLD);
  private static final Pattern WHOLE = Pattern.compile("[1-4](;" + TOLD + ")*:" + LETTER + "+");

  /** One line: its sort, the lines that its pins read, its START. */
  record Told(int sort, List<Integer> reads, int start, int firstPin) {}

  record Circuit(List<Told> lines, List<Integer> pins, List<Integer> outputs) {
    int faults() { return 2 * (lines.size() + pins.size()); }
    int inputs() { return (int) lines.stream().filter(l -> l.sort == 0).count(); }
  }

  /** What is kept: a net, patterns with whether DROPPING was on at their ticks, DROPPING, suspects. */
  record State(Circuit net, List<int[]> patterns, List<Boolean> on, boolean dropping, Set<Integer> suspects) {}

  /** All values of a run: of each tick each line's by each circuit, the good one last. */
  static final class Trace {
    final List<int[][]> values = new ArrayList<>();
    final List<int[][]> held = new ArrayList<>();
    final List<List<Integer>> shows = new ArrayList<>();
    final TreeMap<Integer, Integer> detected = new TreeMap<>();
    final TreeMap<Integer, Integer> droppedAt = new TreeMap<>();
  }

  private State state = fresh(circuitOf("1:a"));
  private final State[] kept = new State[2];
  private String text = "";
  private List<Long> row = new ArrayList<>();
  private List<int[]> chain = new ArrayList<>();

  private static State fresh(Circuit net) {
    return new State(net, List.of(), List.of(), false, Set.of());
  }

  // ---- THE TEXT

  long sign(int v) {
    if (text.length() + 4 > 80) return -1;
    for (int b = 3; b >= 0; b--) text += (char) (v >> 8 * b & 0xFF);
    return text.length();
  }

  boolean end(int n) {
    if (n < 0 || n > text.length()) return false;
    text = text.substring(0, n);
    return true;
  }

  private String takeText() {
    String t = text;
    text = "";
    return t;
  }

  // ---- THE NET

  private static Circuit circuitOf(String t) {
    List<Told> lines = new ArrayList<>();
    List<Integer> pins = new ArrayList<>();
    String[] halves = t.split(":");
    String[] told = halves[0].split(";");
    for (int i = 0; i < told[0].charAt(0) - '0'; i++) lines.add(new Told(0, List.of(), -1, -1));
    for (int i = 1; i < told.length; i++) {
      int sort = "?!=&|^nr#".indexOf(told[i].charAt(0));
      List<Integer> reads = new ArrayList<>();
      int first = pins.size();
      int start = sort == 8 ? 2 : -1;
      for (char c : told[i].substring(1).toCharArray()) {
        if (Character.isDigit(c)) start = c - '0'; else { reads.add(c - 'a'); pins.add(c - 'a'); }
      }
      lines.add(new Told(sort, reads, start, first));
    }
    List<Integer> outputs = new ArrayList<>();
    for (char c : halves[1].toCharArray()) outputs.add(c - 'a');
    return new Circuit(lines, pins, outputs);
  }

  /** Of a text that goes wrong with its last sign, or is none yet: the kind of it, 0 if nothing is wrong. */
  private static int wrongWith(String t) {
    Matcher m = WHOLE.matcher(t);
    if (!m.matches() && !m.hitEnd()) return 3;
    int colon = t.indexOf(':');
    String head = colon < 0 ? t : t.substring(0, colon);
    String[] told = head.split(";", -1);
    int inputs = t.isEmpty() ? 0 : t.charAt(0) - '0';
    int pins = 0;
    int registers = 0;
    boolean room = true;
    boolean names = true;
    for (int i = 1; i < told.length; i++) {
      if (told[i].isEmpty()) continue;
      boolean register = told[i].charAt(0) == '#';
      int line = inputs + i - 1;
      room &= line < 12;
      registers += register ? 1 : 0;
      room &= registers <= 3;
      for (char c : told[i].substring(1).toCharArray()) {
        if (c < 'a') continue;
        pins++;
        room &= pins <= 20;
        names &= register || c - 'a' < line;
      }
    }
    if (colon >= 0) {
      String outs = t.substring(colon + 1);
      int lines = inputs + told.length - 1;
      for (int i = 0; i < outs.length(); i++) {
        names &= outs.charAt(i) - 'a' < lines && outs.indexOf(outs.charAt(i)) == i;
        room &= i < 4;
      }
    }
    return !names ? 5 : !room ? 4 : 0;
  }

  long net() {
    String t = takeText();
    chain = new ArrayList<>();
    for (int p = 0; p < t.length(); p++) {
      int kind = wrongWith(t.substring(0, p + 1));
      if (kind != 0) return refuse(t, p, kind);
    }
    if (!WHOLE.matcher(t).matches()) return refuse(t, t.length(), 3);
    Circuit net = circuitOf(t);
    for (int k = 0; k < net.lines.size(); k++) {
      Told l = net.lines.get(k);
      if (l.sort == 8 && l.reads.get(0) >= net.lines.size()) {
        chain = List.of(new int[] {1, net.lines.size()}, new int[] {2, k}, new int[] {5, l.reads.get(0)});
        return -200;
      }
    }
    state = fresh(net);
    return net.faults();
  }

  private long refuse(String t, int p, int kind) {
    String ahead = t.substring(0, p);
    boolean outs = ahead.indexOf(':') >= 0;
    String[] told = (outs ? ahead.substring(0, ahead.indexOf(':')) : ahead).split(";", -1);
    int right = ahead.isEmpty() ? 0 : ahead.charAt(0) - '0';
    for (int i = 1; i < told.length; i++) right += LINE.matcher(told[i]).matches() ? 1 : 0;
    boolean within = false;
    if (!outs && told.length > 1) {
      String last = told[told.length - 1];
      boolean complete = LINE.matcher(last).matches();
      if (last.isEmpty()) within = p < t.length() && "!=&|^nr#".indexOf(t.charAt(p)) >= 0;
      else within = !complete || kind != 3;
      if (complete && within) right--;
    }
    chain.add(new int[] {1, right});
    if (within) chain.add(new int[] {2, right});
    if (kind == 5) chain.add(new int[] {5, t.charAt(p) - 'a'});
    chain.add(kind == 4 ? new int[] {4, p} : new int[] {3, p});
    return -1 - p;
  }

  long cause(int k, int what) {
    return k < 0 || k >= chain.size() || what < 0 || what > 1 ? -1 : chain.get(k)[what];
  }

  long line(int k, int what) {
    if (!isLine(k) || what < 0 || what > 5) throw new NoSuchElementException();
    Told l = state.net.lines.get(k);
    long readers = state.net.pins.stream().filter(x -> x == k).count();
    return new long[] {l.sort, l.reads.size(), l.firstPin, l.start, state.net.outputs.contains(k) ? 1 : 0, readers}[what];
  }

  long pin(int p) {
    if (p < 0 || p >= state.net.pins.size()) throw new NoSuchElementException();
    return state.net.pins.get(p);
  }

  private boolean isLine(int k) { return k >= 0 && k < state.net.lines.size(); }
  private boolean isFault(int f) { return f >= 0 && f < state.net.faults(); }

  // ---- one circuit, one tick (a fault of -1: the good one)

  private static int[] startOf(Circuit net) {
    int[] held = new int[net.lines.size()];
    for (int k = 0; k < held.length; k++) held[k] = net.lines.get(k).start;
    return held;
  }

  private static int readPin(Circuit net, int p, int[] values, int fault) {
    int base = 2 * (net.lines.size() + p);
    return fault == base ? 0 : fault == base + 1 ? 1 : values[net.pins.get(p)];
  }

  private static int gate(int sort, int[] in) {
    int zeros = 0;
    int ones = 0;
    int unknown = 0;
    for (int v : in) { if (v == 0) zeros++; else if (v == 1) ones++; else unknown++; }
    int and = zeros > 0 ? 0 : unknown > 0 ? 2 : 1;
    int or = ones > 0 ? 1 : unknown > 0 ? 2 : 0;
    switch (sort) {
      case 1: return in[0] == 2 ? 2 : 1 - in[0];
      case 2: return in[0];
      case 3: return and;
      case 4: return or;
      case 5: return unknown > 0 ? 2 : ones % 2;
      case 6: return and == 2 ? 2 : 1 - and;
      default: return or == 2 ? 2 : 1 - or;
    }
  }

  /** The lines' values; line forced has the value to (forced -1: none has). */
  private static int[] evaluate(Circuit net, int[] pattern, int[] held, int fault, int forced, int to) {
    int[] values = new int[net.lines.size()];
    for (int k = 0; k < values.length; k++) {
      Told l = net.lines.get(k);
      if (l.sort == 0) values[k] = pattern[k];
      else if (l.sort == 8) values[k] = held[k];
      else {
        int[] in = new int[l.reads.size()];
        for (int i = 0; i < in.length; i++) in[i] = readPin(net, l.firstPin + i, values, fault);
        values[k] = gate(l.sort, in);
      }
      if (fault == 2 * k || fault == 2 * k + 1) values[k] = fault % 2;
      if (forced == k) values[k] = to;
    }
    return values;
  }

  private static int[] next(Circuit net, int[] values, int fault) {
    int[] held = new int[values.length];
    for (int k = 0; k < held.length; k++) {
      Told l = net.lines.get(k);
      held[k] = l.sort == 8 ? readPin(net, l.firstPin, values, fault) : -1;
    }
    return held;
  }

  private static boolean opposite(int a, int b) { return a != 2 && b != 2 && a != b; }

  private static boolean differ(Circuit net, int[] good, int[] bad) {
    for (int o : net.outputs) if (opposite(good[o], bad[o])) return true;
    return false;
  }

  private static Trace trace(Circuit net, List<int[]> patterns, List<Boolean> on) {
    Trace t = new Trace();
    int n = net.faults();
    int[][] held = new int[n + 1][];
    for (int f = 0; f <= n; f++) held[f] = startOf(net);
    for (int i = 0; i < patterns.size(); i++) {
      int[][] values = new int[n + 1][];
      List<Integer> shows = new ArrayList<>();
      for (int f = n; f >= 0; f--) {
        int as = f == n || t.droppedAt.containsKey(f) ? -1 : f;
        values[f] = evaluate(net, patterns.get(i), held[f], as, -1, 0);
        held[f] = next(net, values[f], as);
        if (f < n && differ(net, values[n], values[f])) shows.add(f);
      }
      for (int f : shows) {
        t.detected.putIfAbsent(f, i);
        if (on.get(i)) {
          t.droppedAt.put(f, i);
          held[f] = held[n];
        }
      }
      t.values.add(values);
      t.held.add(held.clone());
      t.shows.add(shows);
    }
    return t;
  }

  private Trace now() { return trace(state.net, state.patterns, state.on); }

  private static List<Boolean> off(int n) {
    Boolean[] flags = new Boolean[n];
    Arrays.fill(flags, false);
    return Arrays.asList(flags);
  }

  private static Set<Integer> detectedBy(Circuit net, List<int[]> patterns) {
    return trace(net, patterns, off(patterns.size())).detected.keySet();
  }

  // ---- THE RUN

  private static int valueOf(char c) { return "01u".indexOf(c); }

  private long apply(boolean really) {
    String t = takeText();
    int inputs = state.net.inputs();
    for (int p = 0; p < t.length(); p++) if (valueOf(t.charAt(p)) < 0) return -1 - p;
    if (t.length() % inputs != 0) return -1 - t.length();
    if (state.patterns.size() + t.length() / inputs > 24) return -200;
    List<int[]> patterns = new ArrayList<>(state.patterns);
    List<Boolean> on = new ArrayList<>(state.on);
    for (int p = 0; p < t.length(); p += inputs) {
      int[] pattern = new int[inputs];
      for (int k = 0; k < inputs; k++) pattern[k] = valueOf(t.charAt(p + k));
      patterns.add(pattern);
      on.add(state.dropping);
    }
    Set<Integer> fresh = new HashSet<>(trace(state.net, patterns, on).detected.keySet());
    fresh.removeAll(now().detected.keySet());
    if (really) state = new State(state.net, patterns, on, state.dropping, state.suspects);
    tell(bits(fresh));
    return fresh.size();
  }

  long applies() { return apply(true); }
  long would() { return apply(false); }

  long begins() {
    int had = state.patterns.size();
    state = new State(state.net, List.of(), List.of(), state.dropping, Set.of());
    return had;
  }

  long drops(int is) {
    if (is != 0 && is != 1) return -1;
    if (state.dropping == (is == 1)) return -2;
    state = new State(state.net, state.patterns, state.on, is == 1, state.suspects);
    return now().droppedAt.size();
  }

  // ---- questions

  private void tell(long... numbers) {
    row = new ArrayList<>();
    for (long n : numbers) row.add(n);
  }

  private static long bits(Iterable<Integer> set) {
    long b = 0;
    for (int i : set) b |= 1L << i;
    return b;
  }

  private int last() { return state.patterns.size() - 1; }

  long value(int line) {
    if (!isLine(line)) return -1;
    if (last() < 0) return -2;
    int[][] values = now().values.get(last());
    int n = state.net.faults();
    int good = values[n][line];
    List<Integer> list = new ArrayList<>();
    List<Integer> doubts = new ArrayList<>();
    for (int f = 0; f < n; f++) {
      int bad = values[f][line];
      if (opposite(good, bad)) list.add(f);
      if (good == 2 != (bad == 2)) doubts.add(f);
    }
    tell(bits(list), bits(doubts));
    return good;
  }

  long faulty(int fault, int line) {
    if (!isFault(fault) || !isLine(line)) return -1;
    return last() < 0 ? -2 : now().values.get(last())[fault][line];
  }

  long holds(int line) {
    if (!isLine(line) || state.net.lines.get(line).sort != 8) return -1;
    if (last() < 0) {
      tell(0);
      return state.net.lines.get(line).start;
    }
    int[][] held = now().held.get(last());
    int n = state.net.faults();
    List<Integer> other = new ArrayList<>();
    for (int f = 0; f < n; f++) if (held[f][line] != held[n][line]) other.add(f);
    tell(bits(other));
    return held[n][line];
  }

  long detected() {
    Trace t = now();
    tell(bits(t.detected.keySet()), bits(t.droppedAt.keySet()));
    return t.detected.size();
  }

  long when(int fault) {
    if (!isFault(fault)) return -1;
    Trace t = now();
    if (!t.detected.containsKey(fault)) return -2;
    int tick = t.detected.get(fault);
    int[][] values = t.values.get(tick);
    List<Integer> at = new ArrayList<>();
    for (int o : state.net.outputs) if (opposite(values[state.net.faults()][o], values[fault][o])) at.add(o);
    tell(bits(at));
    return tick;
  }

  long sample(int k, int r) {
    if (k < 1 || k > 8 || r < 0 || r >= k) return -1;
    int above = 0;
    int below = 0;
    Set<Integer> detected = now().detected.keySet();
    for (int f = 0; f < state.net.faults(); f++) {
      if (f % k != r) continue;
      below++;
      if (detected.contains(f)) above++;
    }
    if (below == 0) return -2;
    int gcd = java.math.BigInteger.valueOf(above).gcd(java.math.BigInteger.valueOf(below)).intValue();
    tell(above / gcd, below / gcd);
    return 0;
  }

  long critical(int output) {
    if (!state.net.outputs.contains(output)) return -1;
    if (last() < 0) return -2;
    int[] good = now().values.get(last())[state.net.faults()];
    List<Integer> lines = new ArrayList<>();
    for (int k = 0; k < good.length; k++) {
      if (good[k] == 2) continue;
      // a register's value is put where it would be held
      int[] values = evaluate(state.net, good, good, -1, k, 1 - good[k]);
      if (opposite(values[output], good[output])) lines.add(k);
    }
    tell(lines.size());
    return bits(lines);
  }

  /** The class of each fault: spread from fault to fault until nothing more is alike. */
  private Set<Integer> classFrom(int fault) {
    Circuit net = state.net;
    List<int[]> alike = new ArrayList<>();
    for (int k = 0; k < net.lines.size(); k++) {
      Told l = net.lines.get(k);
      for (int i = 0; i < l.reads.size(); i++) {
        int p = 2 * (net.lines.size() + l.firstPin + i);
        switch (l.sort) {
          case 1: alike.add(new int[] {p, 2 * k + 1}); alike.add(new int[] {p + 1, 2 * k}); break;
          case 2: alike.add(new int[] {p, 2 * k}); alike.add(new int[] {p + 1, 2 * k + 1}); break;
          case 3: alike.add(new int[] {p, 2 * k}); break;
          case 4: alike.add(new int[] {p + 1, 2 * k + 1}); break;
          case 6: alike.add(new int[] {p, 2 * k + 1}); break;
          case 7: alike.add(new int[] {p + 1, 2 * k}); break;
          default: break;
        }
      }
      if (!net.outputs.contains(k) && net.pins.indexOf(k) >= 0 && net.pins.indexOf(k) == net.pins.lastIndexOf(k)) {
        int p = 2 * (net.lines.size() + net.pins.indexOf(k));
        alike.add(new int[] {p, 2 * k});
        alike.add(new int[] {p + 1, 2 * k + 1});
      }
    }
    Set<Integer> reached = new HashSet<>(Set.of(fault));
    for (boolean more = true; more;) {
      more = false;
      for (int[] a : alike) {
        if (reached.contains(a[0])) more |= reached.add(a[1]);
        if (reached.contains(a[1])) more |= reached.add(a[0]);
      }
    }
    return reached;
  }

  long classes() {
    Set<Long> all = new HashSet<>();
    long largest = 0;
    for (int f = 0; f < state.net.faults(); f++) {
      long c = bits(classFrom(f));
      all.add(c);
      if (Long.bitCount(c) > Long.bitCount(largest)) largest = c;
    }
    tell(largest);
    return all.size();
  }

  long classOf(int fault) {
    if (!isFault(fault)) return -1;
    tell(bits(classFrom(fault)));
    return classFrom(fault).size();
  }

  // ---- tests: deeper and deeper, patterns in their order

  private static int[] patternOf(int number, int inputs) {
    int[] pattern = new int[inputs];
    for (int k = 0; k < inputs; k++) pattern[k] = Integer.parseInt(
        String.format("%4s", Integer.toBinaryString(number)).replace(' ', '0').substring(4 - inputs).substring(k, k + 1));
    return pattern;
  }

  private static int[][] allPatterns(int inputs) {
    int[][] all = new int[1 << inputs][];
    for (int i = 0; i < all.length; i++) all[i] = patternOf(i, inputs);
    return all;
  }

  private List<Integer> rowFor(Circuit net, int[][] all, int fault, int[] good, int[] bad, int length, Set<String> failed) {
    String key = Arrays.toString(good) + Arrays.toString(bad) + length;
    if (failed.contains(key)) return null;
    for (int i = 0; i < all.length; i++) {
      int[] g = evaluate(net, all[i], good, -1, -1, 0);
      int[] b = evaluate(net, all[i], bad, fault, -1, 0);
      List<Integer> rest = null;
      if (length == 1) rest = differ(net, g, b) ? new ArrayList<>() : null;
      else rest = rowFor(net, all, fault, next(net, g, -1), next(net, b, fault), length - 1, failed);
      if (rest != null) {
        rest.add(0, i);
        return rest;
      }
    }
    failed.add(key);
    return null;
  }

  private List<Integer> rowFor(int fault) {
    Circuit net = state.net;
    for (int length = 1; length <= 6; length++) {
      List<Integer> found =
          rowFor(net, allPatterns(net.inputs()), fault, startOf(net), startOf(net), length, new HashSet<>());
      if (found != null) return found;
    }
    return null;
  }

  long tests(int fault) {
    if (!isFault(fault)) return -1;
    List<Integer> found = rowFor(fault);
    if (found == null) return -2;
    tell(found.stream().mapToLong(i -> i).toArray());
    return found.size();
  }

  long hidden() {
    TreeMap<Integer, List<Integer>> byLength = new TreeMap<>();
    List<Integer> none = new ArrayList<>();
    for (int f = 0; f < state.net.faults(); f++) {
      List<Integer> found = rowFor(f);
      if (found == null) none.add(f);
      else byLength.computeIfAbsent(found.size(), x -> new ArrayList<>()).add(f);
    }
    if (byLength.isEmpty()) tell(bits(none), 0, 0);
    else tell(bits(none), bits(byLength.lastEntry().getValue()), byLength.lastKey());
    return none.size();
  }

  // ---- patterns that are needless

  private boolean doesWith(Set<Integer> ticks) {
    List<int[]> some = new ArrayList<>();
    for (int i = 0; i <= last(); i++) if (ticks.contains(i)) some.add(state.patterns.get(i));
    return detectedBy(state.net, some).containsAll(now().detected.keySet());
  }

  private Set<Integer> allTicks() {
    Set<Integer> all = new HashSet<>();
    for (int i = 0; i <= last(); i++) all.add(i);
    return all;
  }

  long needless() {
    Set<Integer> found = new HashSet<>();
    for (int i = 0; i <= last(); i++) {
      Set<Integer> rest = allTicks();
      rest.remove(i);
      if (doesWith(rest)) found.add(i);
    }
    tell(bits(found));
    return found.size();
  }

  long shorter() {
    Set<Integer> left = allTicks();
    for (int i = last(); i >= 0; i--) {
      left.remove(i);
      if (!doesWith(left)) left.add(i);
    }
    tell(bits(left));
    return left.size();
  }

  // ---- what is to blame

  long blames() {
    String t = takeText();
    int outs = state.net.outputs.size();
    for (int p = 0; p < t.length(); p++) {
      if (valueOf(t.charAt(p)) < 0 || p / outs > last()) return -1 - p;
    }
    if (t.length() % outs != 0) return -1 - t.length();
    Trace trace = trace(state.net, state.patterns, off(last() + 1));
    int n = state.net.faults();
    Set<Integer> fit = new HashSet<>();
    for (int f = 0; f <= n; f++) {
      boolean fits = true;
      for (int p = 0; p < t.length(); p++) {
        int is = trace.values.get(p / outs)[f][state.net.outputs.get(p % outs)];
        fits &= !opposite(is, valueOf(t.charAt(p)));
      }
      if (fits) fit.add(f);
    }
    boolean good = fit.remove(n);
    state = new State(state.net, state.patterns, state.on, state.dropping, fit);
    tell(bits(fit), good ? 1 : 0);
    return fit.size();
  }

  long parts() {
    if (state.suspects.size() < 2) return -2;
    int best = -1;
    int least = 1000;
    for (int i = 0; i < 1 << state.net.inputs(); i++) {
      List<int[]> more = new ArrayList<>(state.patterns);
      more.add(patternOf(i, state.net.inputs()));
      int[][] values = trace(state.net, more, off(more.size())).values.get(last() + 1);
      TreeMap<String, Integer> groups = new TreeMap<>();
      for (int f : state.suspects) {
        String key = "";
        for (int o : state.net.outputs) key += values[f][o];
        groups.merge(key, 1, Integer::sum);
      }
      int most = groups.values().stream().mapToInt(x -> x).max().getAsInt();
      if (most < least) {
        least = most;
        best = i;
      }
    }
    tell(least);
    return best;
  }

  long drawn(int seed, int n) {
    if (n < 1 || n > 24) return -1;
    List<int[]> patterns = new ArrayList<>();
    int r = seed;
    for (int i = 0; i < n; i++) {
      int[] pattern = new int[state.net.inputs()];
      for (int k = 0; k < pattern.length; k++) {
        r = r * 1103515245 + 12345;
        pattern[k] = (int) (Integer.toUnsignedLong(r) / 65536 % 2);
      }
      patterns.add(pattern);
    }
    TreeMap<Integer, Integer> detected = trace(state.net, patterns, off(n)).detected;
    tell(bits(detected.keySet()), detected.values().stream().mapToInt(x -> x).max().orElse(-1));
    return detected.size();
  }

  // ---- what was kept, counts

  boolean keep(int i) {
    if (i != 0 && i != 1) return false;
    kept[i] = state;
    return true;
  }

  boolean again(int i) {
    if (i != 0 && i != 1 || kept[i] == null) return false;
    state = kept[i];
    return true;
  }

  private long listLengths() {
    List<Long> before = row;
    long sum = 0;
    for (int k = 0; k < state.net.lines.size() && last() >= 0; k++) {
      value(k);
      sum += Long.bitCount(row.get(0));
    }
    row = before;
    return sum;
  }

  long count(int what) {
    switch (what) {
      case 0: return state.net.lines.size();
      case 1: return state.net.inputs();
      case 2: return state.net.lines.stream().filter(l -> l.sort == 8).count();
      case 3: return state.net.pins.size();
      case 4: return state.net.outputs.size();
      case 5: return state.net.faults();
      case 6: return state.patterns.size();
      case 7: return now().detected.size();
      case 8: return state.dropping ? 1 : 0;
      case 9: return state.suspects.size();
      case 10: return listLengths();
      case 11: return row.size();
      case 12: return text.length();
      default: return -1;
    }
  }

  long row(int i) {
    if (i < 0 || i >= row.size()) throw new NoSuchElementException();
    return row.get(i);
  }
}
