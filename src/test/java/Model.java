import java.util.ArrayList;
import java.util.HashMap;
import java.util.List;
import java.util.Map;
import java.util.function.IntPredicate;
import java.util.regex.Matcher;
import java.util.regex.Pattern;
import java.util.stream.IntStream;

/**
 * The document once more, word by word and without a thought for speed or room, for RandomRunsTest to compare with:
 * every answer is worked out anew from what was told.
 */
final class Model {
  static final int NONE = -1, BAD = -2, STATE = -3, FULL = -4;
  static final long NO = Long.MIN_VALUE;

  record Place(int x, int y) {
    int to(Place other) {
      return Math.abs(x - other.x) + Math.abs(y - other.y);
    }

    int district() {
      return x / 25;
    }
  }

  static final class Gauge {
    Place place;
    int from;
    int down = 16;

    boolean standing(int season) {
      return season >= from && season < down;
    }
  }

  record Telling(String sort, int of, int season, int week, int v) {
  }

  static final class Farm {
    Place place;
    int crop;
    int area;
    int debt = 0;
    int group = -1;
    int rule = 0;
    Map<Integer, Integer> settled = new HashMap<>();
    /** The TERM of each SEASON in which it is COVERED, and which cover it is. */
    Integer[] term = new Integer[16];
    Integer[] cover = new Integer[16];
    Map<Integer, int[]> looks = new HashMap<>();
  }

  static final class Payment {
    int farm;
    int season;
    int amount;
    int state = 0;
  }

  static final class Complaint {
    int farm;
    int season;
    int term;
    int verdict = 0;
    int payment = -1;
  }

  final List<Gauge> gauges = new ArrayList<>();
  final List<Telling> tellings = new ArrayList<>();
  final List<String> terms = new ArrayList<>();
  final List<Farm> farms = new ArrayList<>();
  final List<Place> sites = new ArrayList<>();
  final List<Payment> payments = new ArrayList<>();
  final List<Complaint> complaints = new ArrayList<>();
  final List<Integer> ran = new ArrayList<>();
  final int[] laws = {40, 500, 20, 0};
  final int[] plants = new int[4];
  final int[][] sheets = new int[3][];
  final int[] sorts = {-1, -1, -1};
  String tape = "";
  int covers = 0;
  long fund = 0;
  int z = 1;

  static boolean in(int v, int low, int high) {
    return v >= low && v <= high;
  }

  boolean isGauge(int g) {
    return in(g, 0, gauges.size() - 1);
  }

  boolean isFarm(int f) {
    return in(f, 0, farms.size() - 1);
  }

  boolean isTerm(int t) {
    return in(t, 0, terms.size() - 1);
  }

  int now() {
    return tellings.size();
  }

  // ---- rain

  int gauge(int x, int y, int season) {
    if (!in(x, 0, 99) || !in(y, 0, 99)) return BAD;
    if (!in(season, 0, 15)) return NONE;
    if (gauges.size() == 8) return FULL;
    Gauge g = new Gauge();
    g.place = new Place(x, y);
    g.from = season;
    gauges.add(g);
    return gauges.size() - 1;
  }

  int down(int gauge, int season) {
    if (!isGauge(gauge) || !in(season, 0, 16)) return NONE;
    gauges.get(gauge).down = season;
    return 1;
  }

  int law(int what, int v) {
    if (!in(what, 0, 3)) return NONE;
    int[] most = {198, 9999, 300, 100};
    if (!in(v, 0, most[what])) return BAD;
    int was = laws[what];
    laws[what] = v;
    return was;
  }

  int rain(int gauge, int season, int week, int v) {
    if (!isGauge(gauge) || !in(season, 0, 15) || !in(week, 0, 11)) return NONE;
    if (!in(v, -1, 9999)) return BAD;
    if (tellings.size() == 700) return FULL;
    tellings.add(new Telling("rain", gauge, season, week, v));
    return tellings.size();
  }

  int green(int district, int season, int week, int v) {
    if (!in(district, 0, 3) || !in(season, 0, 15) || !in(week, 0, 11)) return NONE;
    if (!in(v, -1, 100)) return BAD;
    if (tellings.size() == 700) return FULL;
    tellings.add(new Telling("green", district, season, week, v));
    return tellings.size();
  }

  int known(String sort, int of, int season, int week, int k) {
    for (int i = Math.min(k, tellings.size()) - 1; i >= 0; i--) {
      Telling t = tellings.get(i);
      if (t.of == of && t.season == season && t.week == week && t.sort.equals(sort)) return t.v;
    }
    return -1;
  }

  int seen(int district, int season, int week, int k) {
    if (!in(district, 0, 3) || !in(season, 0, 15) || !in(week, 0, 11) || k < 0) return -5;
    return known("green", district, season, week, k);
  }

  int lay(int gauge, int season, int sheet, int sort, int i) {
    if (!isGauge(gauge) || !in(season, 0, 15)) return NONE;
    if (!in(sheet, 0, 2) || !in(sort, 0, 2)) return BAD;
    if (sheets[sheet] == null) return -11;
    if (sorts[sheet] != sort) return -13;
    if (i < 0 || (long) i + 12 > sheets[sheet].length) return -12;
    if (tellings.size() + 12 > 700) return FULL;
    for (int week = 0; week < 12; week++) {
      int v = sheets[sheet][i + week];
      tellings.add(new Telling("rain", gauge, season, week, in(v, 0, 9999) ? v : -1));
    }
    return tellings.size();
  }

  int told(int gauge, int season, int week, int k) {
    if (!isGauge(gauge) || !in(season, 0, 15) || !in(week, 0, 11) || k < 0) return -5;
    return known("rain", gauge, season, week, k);
  }

  int filled(int gauge, int season, int week, int k) {
    if (!isGauge(gauge) || !in(season, 0, 15) || !in(week, 0, 11) || k < 0) return -5;
    int own = told(gauge, season, week, k);
    if (own >= 0) return own;
    for (int d = 0; d <= laws[0]; d++) {
      for (int g = 0; g < gauges.size(); g++) {
        if (g == gauge || gauges.get(g).place.to(gauges.get(gauge).place) != d) continue;
        if (told(g, season, week, k) >= 0) return told(g, season, week, k);
      }
    }
    return (int) IntStream.range(0, 16).filter(s -> s != season).map(s -> told(gauge, s, week, k)).filter(v -> v >= 0)
        .average().orElse(0);
  }

  IntStream near(int gauge, int season, int week) {
    return IntStream.range(0, gauges.size())
        .filter(g -> g != gauge && gauges.get(g).place.to(gauges.get(gauge).place) <= laws[0])
        .map(g -> told(g, season, week, now())).filter(v -> v >= 0);
  }

  int span(int gauge, int season, int week, int what) {
    if (!isGauge(gauge) || !in(season, 0, 15) || !in(week, 0, 11) || !in(what, 0, 1)) return -5;
    return what == 0 ? near(gauge, season, week).min().orElse(NONE) : near(gauge, season, week).max().orElse(NONE);
  }

  int odd(int gauge, int season) {
    if (!isGauge(gauge) || !in(season, 0, 15)) return NONE;
    return (int) IntStream.range(0, 12).filter(week -> {
      int v = told(gauge, season, week, now());
      if (v < 0 || near(gauge, season, week).count() == 0) return false;
      return v + laws[1] < span(gauge, season, week, 0) || v - laws[1] > span(gauge, season, week, 1);
    }).count();
  }

  // ---- terms

  int feed(int bytes, int n) {
    if (!in(n, 0, 4)) return BAD;
    if (tape.length() + n > 100) return FULL;
    for (int i = n - 1; i >= 0; i--) tape += (char) ((bytes >> 8 * i) & 255);
    return tape.length();
  }

  private static final String SPAN = "[0-9]{1,2} to [0-9]{1,2}";
  private static final String CASE = "(?:(?:sum|dry|green) " + SPAN + "|week [0-9]{1,2}) [<>] [0-9]{1,4}";
  private static final Pattern GRAMMAR = Pattern.compile("pay [0-9]{1,4} if " + CASE + "(?: and " + CASE + "){0,3}"
      + "|rate [0-9]{1,4} per [0-9]{1,4} below [0-9]{1,4} of sum " + SPAN + " max [0-9]{1,4}");
  private static final Pattern WEEKS = Pattern.compile("(?:sum|dry|green) ([0-9]+) to ([0-9]+)|week ([0-9]+)");

  static boolean canBegin(String text) {
    Matcher m = GRAMMAR.matcher(text);
    return m.matches() || m.hitEnd();
  }

  int term() {
    if (terms.size() == 8) return FULL;
    String text = tape;
    tape = "";
    if (!GRAMMAR.matcher(text).matches()) {
      int fault = 0;
      while (fault < text.length() && canBegin(text.substring(0, fault + 1))) fault++;
      return -10 - fault;
    }
    Matcher m = WEEKS.matcher(text);
    while (m.find()) {
      int a = Integer.parseInt(m.group(3) != null ? m.group(3) : m.group(1));
      int b = m.group(3) != null ? a : Integer.parseInt(m.group(2));
      if (a > b || b > 11) return BAD;
    }
    if (text.startsWith("rate") && Integer.parseInt(text.split(" ")[3]) == 0) return BAD;
    terms.add(text);
    return terms.size() - 1;
  }

  int pay(int term, int gauge, int season, int plant, int crop) {
    if (!isTerm(term) || !isGauge(gauge) || !in(season, 0, 15)) return NONE;
    if (!in(plant, 0, 5) || !in(crop, 0, 3)) return BAD;
    return payAt(term, gauge, season, plant, crop, now());
  }

  int payAt(int term, int gauge, int season, int plant, int crop, int k) {
    int[] wet = IntStream.range(0, 12).map(w -> filled(gauge, season, w, k)).toArray();
    int district = gauges.get(gauge).place.district();
    int[] lush = IntStream.range(0, 12).map(w -> seen(district, season, w, k)).toArray();
    return payOn(terms.get(term), wet, lush, plant, crop);
  }

  static int payOn(String term, int[] wet, int[] lush, int plant, int crop) {
    String[] words = term.split(" ");
    int amount = Integer.parseInt(words[1]);
    if (words[0].equals("rate")) {
      int sum = counting(words[8], words[10], plant).map(w -> wet[w]).sum();
      int pay = 0;
      for (int below = Integer.parseInt(words[5]) - sum; below >= Integer.parseInt(words[3]);
          below -= Integer.parseInt(words[3])) pay += amount;
      return Math.min(pay, Integer.parseInt(words[12]));
    }
    for (String one : term.substring(term.indexOf(" if ") + 4).split(" and ")) {
      if (!isSo(one.split(" "), wet, lush, plant, crop)) return 0;
    }
    return amount;
  }

  static IntStream counting(String a, String b, int plant) {
    return IntStream.rangeClosed(Integer.parseInt(a) + plant, Integer.parseInt(b) + plant).filter(w -> w <= 11);
  }

  static boolean isSo(String[] words, int[] wet, int[] lush, int plant, int crop) {
    int n = Integer.parseInt(words[words.length - 1]);
    boolean above = words[words.length - 2].equals(">");
    IntPredicate op = v -> above ? v > n : v < n;
    int[] weeks = counting(words[1], words[0].equals("week") ? words[1] : words[3], plant).toArray();
    switch (words[0]) {
      case "sum":
        return op.test(IntStream.of(weeks).map(w -> wet[w]).sum());
      case "green":
        int[] known = IntStream.of(weeks).map(w -> lush[w]).filter(v -> v >= 0).toArray();
        return known.length > 0 && op.test(IntStream.of(known).max().getAsInt());
      case "week":
        return weeks.length == 1 && op.test(wet[weeks[0]]);
      default:
        int dryness = new int[] {100, 80, 120, 60}[crop];
        StringBuilder marks = new StringBuilder();
        for (int w : weeks) marks.append(wet[w] < dryness ? 'd' : ' ');
        int longest = 0;
        for (String run : marks.toString().split(" ")) longest = Math.max(longest, run.length());
        return op.test(longest);
    }
  }

  // ---- farms

  int farm(int x, int y, int crop, int area) {
    if (!in(x, 0, 99) || !in(y, 0, 99) || !in(crop, 0, 3) || !in(area, 1, 99)) return BAD;
    if (farms.size() == 24) return FULL;
    Farm f = new Farm();
    f.place = new Place(x, y);
    f.crop = crop;
    f.area = area;
    farms.add(f);
    return farms.size() - 1;
  }

  int plant(int district, int p) {
    if (!in(district, 0, 3)) return NONE;
    if (!in(p, 0, 5)) return BAD;
    int was = plants[district];
    plants[district] = p;
    return was;
  }

  int enroll(int farm, int term, int season) {
    if (!isFarm(farm) || !isTerm(term) || !in(season, 0, 15)) return NONE;
    Farm f = farms.get(farm);
    for (int s = season; s < 16; s++) if (f.term[s] != null) return STATE;
    if (covers == 60) return FULL;
    for (int s = season; s < 16; s++) {
      f.term[s] = term;
      f.cover[s] = covers;
    }
    covers++;
    return 1;
  }

  int lapse(int farm, int season) {
    if (!isFarm(farm) || !in(season, 0, 15)) return NONE;
    Farm f = farms.get(farm);
    if (f.term[season] == null) return STATE;
    int cover = f.cover[season];
    int less = 0;
    for (int s = season; s < 16; s++) {
      if (f.cover[s] == null || f.cover[s] != cover) continue;
      f.cover[s] = null;
      f.term[s] = null;
      less++;
    }
    return less;
  }

  int gaugeOf(Farm f, int season) {
    for (int d = 0; d <= 198; d++) {
      for (int g = 0; g < gauges.size(); g++) {
        if (gauges.get(g).standing(season) && gauges.get(g).place.to(f.place) == d) return g;
      }
    }
    return -1;
  }

  int payOf(Farm f, int season, int term, int k) {
    int g = gaugeOf(f, season);
    return g < 0 ? 0 : payAt(term, g, season, plants[f.place.district()], f.crop, k);
  }

  int of(int farm, int season, int what) {
    if (!isFarm(farm) || !in(season, 0, 15) || !in(what, 0, 5)) return -5;
    Farm f = farms.get(farm);
    int g = gaugeOf(f, season);
    if (what == 0) return g;
    if (what == 1) return f.term[season] == null ? -1 : f.term[season];
    if (what == 2) return g < 0 ? -1 : gauges.get(g).place.to(f.place);
    if (what == 3) return f.term[season] == null ? -1 : payOf(f, season, f.term[season], now());
    if (what == 4) return f.place.district();
    return f.settled.getOrDefault(season, 0);
  }

  int due(int farm, int season, int k) {
    if (!isFarm(farm) || !in(season, 0, 15) || k < 0) return -5;
    Farm f = farms.get(farm);
    return f.term[season] == null ? 0 : f.area * payOf(f, season, f.term[season], k);
  }

  int line(int season, int d, int what) {
    if (!in(season, 0, 15) || !in(what, 0, 2)) return NONE;
    if (!in(d, 0, 198)) return BAD;
    List<int[]> twos = new ArrayList<>();
    for (int a = 0; a < farms.size(); a++) {
      for (int b = a + 1; b < farms.size(); b++) {
        Farm f = farms.get(a);
        Farm g = farms.get(b);
        if (f.term[season] == null || g.term[season] == null || !f.term[season].equals(g.term[season])) continue;
        if (f.place.to(g.place) > d) continue;
        int one = gaugeOf(f, season);
        if (one >= 0 && one == gaugeOf(g, season)) continue;
        if (of(a, season, 3) != of(b, season, 3)) twos.add(new int[] {a, b});
      }
    }
    if (what == 0) return twos.size();
    return twos.isEmpty() ? NONE : twos.get(0)[what - 1];
  }

  // ---- fields looked at, sites

  int looks() {
    return farms.stream().mapToInt(f -> f.looks.size()).sum();
  }

  int look(int farm, int season, int loss, int doubt) {
    if (!isFarm(farm) || !in(season, 0, 15)) return NONE;
    if (!in(loss, 0, 9999) || !in(doubt, 0, 9999)) return BAD;
    Farm f = farms.get(farm);
    if (!f.looks.containsKey(season) && looks() == 80) return FULL;
    f.looks.put(season, new int[] {loss, doubt});
    return looks();
  }

  static long part(long above, long below, int part) {
    java.math.BigInteger a = java.math.BigInteger.valueOf(above);
    java.math.BigInteger b = java.math.BigInteger.valueOf(below);
    java.math.BigInteger g = a.gcd(b);
    return (part == 0 ? a.divide(g) : b.divide(g)).longValueExact();
  }

  long basis(int term, int band, int part) {
    if (!isTerm(term) || !in(band, 0, 3) || !in(part, 0, 1)) return NO;
    long sum = 0;
    int n = 0;
    for (int i = 0; i < farms.size(); i++) {
      for (Map.Entry<Integer, int[]> look : farms.get(i).looks.entrySet()) {
        int distance = of(i, look.getKey(), 2);
        if (distance < 0 || Math.min(3, distance / 20) != band) continue;
        int miss = Math.abs(payOf(farms.get(i), look.getKey(), term, now()) - look.getValue()[0]) - look.getValue()[1];
        sum += Math.max(0, miss);
        n++;
      }
    }
    return n == 0 ? NO : part(sum, n, part);
  }

  int site(int x, int y) {
    if (!in(x, 0, 99) || !in(y, 0, 99)) return BAD;
    if (sites.size() == 8) return FULL;
    sites.add(new Place(x, y));
    return sites.size() - 1;
  }

  /** All sets of n SITES in rising order, in the order of their numbers. */
  void sets(List<Integer> begun, int n, List<List<Integer>> all) {
    if (begun.size() == n) {
      all.add(new ArrayList<>(begun));
      return;
    }
    for (int i = begun.isEmpty() ? 0 : begun.get(begun.size() - 1) + 1; i < sites.size(); i++) {
      begun.add(i);
      sets(begun, n, all);
      begun.remove(begun.size() - 1);
    }
  }

  int far(List<Integer> set) {
    List<Place> places = new ArrayList<>();
    for (Gauge g : gauges) if (g.standing(15)) places.add(g.place);
    for (int i : set) places.add(sites.get(i));
    return farms.stream().mapToInt(f -> f.area * places.stream().mapToInt(p -> p.to(f.place)).min().orElse(0)).sum();
  }

  int best(int n, int what) {
    if (!in(n, 0, Math.min(4, sites.size())) || !in(what, 0, 4)) return -5;
    List<List<Integer>> all = new ArrayList<>();
    sets(new ArrayList<>(), n, all);
    int least = all.stream().mapToInt(this::far).min().getAsInt();
    if (what == 0) return least;
    List<Integer> first = all.stream().filter(set -> far(set) == least).findFirst().get();
    return what > n ? NONE : first.get(what - 1);
  }

  // ---- prices, the reserve

  int[] knownSeasons(int gauge) {
    return IntStream.range(0, 16)
        .filter(s -> IntStream.range(0, 12).filter(w -> told(gauge, s, w, now()) >= 0).count() >= 6).toArray();
  }

  boolean isOffer(int term, int gauge, int plant, int crop) {
    return isTerm(term) && isGauge(gauge) && in(plant, 0, 5) && in(crop, 0, 3);
  }

  long mean(int term, int gauge, int plant, int crop, int part) {
    if (!isOffer(term, gauge, plant, crop) || !in(part, 0, 1)) return NO;
    int[] known = knownSeasons(gauge);
    if (known.length == 0) return NO;
    return part(IntStream.of(known).map(s -> pay(term, gauge, s, plant, crop)).sum(), known.length, part);
  }

  static int up(long above, long below) {
    return (int) -Math.floorDiv(-above, below);
  }

  int price(int term, int gauge, int plant, int crop, int what) {
    if (!isOffer(term, gauge, plant, crop) || !in(what, 0, 2)) return NONE;
    int n = knownSeasons(gauge).length;
    if (what == 2 || n == 0) return n;
    int price = up(mean(term, gauge, plant, crop, 0) * (100 + laws[2]), mean(term, gauge, plant, crop, 1) * 100);
    return what == 0 ? price : up((long) price * (100 - laws[3]), 100);
  }

  long trend(int term, int gauge, int plant, int crop, int part) {
    if (!isOffer(term, gauge, plant, crop) || !in(part, 0, 1)) return NO;
    int[] known = knownSeasons(gauge);
    if (known.length < 2) return NO;
    long n = known.length;
    long xy = 0;
    long x = 0;
    long y = 0;
    long xx = 0;
    for (int s : known) {
      int v = pay(term, gauge, s, plant, crop);
      xy += (long) s * v;
      x += s;
      y += v;
      xx += (long) s * s;
    }
    return part(n * xy - x * y, n * xx - x * x, part);
  }

  int beside(int first, int second, int gauge, int plant, int crop, int what) {
    if (!isOffer(first, gauge, plant, crop) || !isTerm(second) || !in(what, 0, 3)) return NONE;
    boolean[] one = {true, false, true, false};
    boolean[] other = {false, true, true, false};
    return (int) IntStream.of(knownSeasons(gauge)).filter(s -> pay(first, gauge, s, plant, crop) > 0 == one[what]
        && pay(second, gauge, s, plant, crop) > 0 == other[what]).count();
  }

  int foretold(int term, int gauge, int season, int week, int plant, int crop, int what) {
    if (!isOffer(term, gauge, plant, crop) || !in(season, 0, 15) || !in(week, 0, 12) || !in(what, 0, 3)) return NONE;
    int district = gauges.get(gauge).place.district();
    int[] all = IntStream.of(knownSeasons(gauge)).filter(s -> s != season).map(s -> payOn(terms.get(term),
        IntStream.range(0, 12).map(w -> filled(gauge, w >= week ? s : season, w, now())).toArray(),
        IntStream.range(0, 12).map(w -> seen(district, w >= week ? s : season, w, now())).toArray(), plant, crop))
        .toArray();
    if (what == 0) return IntStream.of(all).min().orElse(0);
    if (what == 1) return IntStream.of(all).max().orElse(0);
    return what == 2 ? IntStream.of(all).sum() : all.length;
  }

  int income(int q) {
    if (!in(q, 0, 15)) return NONE;
    return farms.stream().filter(f -> f.term[q] != null && gaugeOf(f, q) >= 0)
        .mapToInt(f -> f.area * price(f.term[q], gaugeOf(f, q), plants[f.place.district()], f.crop, 0)).sum();
  }

  int total(int s, int q) {
    if (!in(s, 0, 15) || !in(q, 0, 15)) return NONE;
    return farms.stream().filter(f -> f.term[q] != null && gaugeOf(f, q) >= 0)
        .mapToInt(f -> f.area * pay(f.term[q], gaugeOf(f, q), s, plants[f.place.district()], f.crop)).sum();
  }

  int layer(int s, int q, int a, int b) {
    if (!in(s, 0, 15) || !in(q, 0, 15)) return NONE;
    if (a < 0 || b > 2000000000 || a > b) return BAD;
    int total = total(s, q);
    return total <= a ? 0 : Math.min(total, b) - a;
  }

  int lots(int told) {
    z = told;
    return 1;
  }

  int lasts(int reserve, int q, int n, int m) {
    if (!in(q, 0, 15)) return NONE;
    if (!in(reserve, 0, 2000000000) || !in(n, 1, 40) || !in(m, 1, 40)) return BAD;
    List<Integer> standing = new ArrayList<>();
    for (int g = 0; g < gauges.size(); g++) if (gauges.get(g).standing(q)) standing.add(g);
    int[] years = IntStream.range(0, 16).filter(s -> !standing.isEmpty() && standing.stream()
        .allMatch(g -> IntStream.of(knownSeasons(g)).anyMatch(k -> k == s))).toArray();
    if (years.length == 0) return STATE;
    int income = income(q);
    int[] totals = IntStream.of(years).map(s -> total(s, q)).toArray();
    int lasting = 0;
    for (int i = 0; i < m; i++) {
      long rest = reserve;
      boolean lasts = true;
      for (int j = 0; j < n; j++) {
        z = z * 1103515245 + 12345;
        rest = rest + income - totals[(z >>> 8) % years.length];
        lasts &= rest >= 0;
      }
      if (lasts) lasting++;
    }
    return lasting;
  }

  // ---- paying

  int settle(int season) {
    if (!in(season, 0, 15)) return NONE;
    List<Payment> come = new ArrayList<>();
    int[] debts = farms.stream().mapToInt(f -> f.debt).toArray();
    for (int i = 0; i < farms.size(); i++) {
      int owed = due(i, season, now()) - farms.get(i).settled.getOrDefault(season, 0);
      int off = Math.min(owed, debts[i]);
      debts[i] -= off;
      if (owed - off > 0) come.add(paymentOf(i, season, owed - off));
    }
    if (payments.size() + come.size() > 200) return FULL;
    payments.addAll(come);
    for (int i = 0; i < farms.size(); i++) {
      farms.get(i).debt = debts[i];
      farms.get(i).settled.put(season, due(i, season, now()));
    }
    return come.size();
  }

  static Payment paymentOf(int farm, int season, int amount) {
    Payment p = new Payment();
    p.farm = farm;
    p.season = season;
    p.amount = amount;
    return p;
  }

  int payment(int p, int what) {
    if (!in(p, 0, payments.size() - 1) || !in(what, 0, 3)) return -5;
    Payment asked = payments.get(p);
    return new int[] {asked.farm, asked.season, asked.amount, asked.state}[what];
  }

  int fund(int v) {
    if (!in(v, -1000000000, 1000000000) || !in((int) Math.max(-1, Math.min(fund + v, 2000000001L)), 0, 2000000000)) {
      return BAD;
    }
    fund += v;
    return (int) fund;
  }

  int send(int p) {
    if (!in(p, 0, payments.size() - 1)) return NONE;
    Payment asked = payments.get(p);
    if (asked.state % 2 == 1 || fund < asked.amount) return STATE;
    fund -= asked.amount;
    asked.state = 1;
    return 1;
  }

  int arrive(int p, int lost) {
    if (!in(p, 0, payments.size() - 1)) return NONE;
    if (!in(lost, 0, 1)) return BAD;
    Payment asked = payments.get(p);
    if (asked.state != 1) return STATE;
    if (lost == 1 && fund + asked.amount > 2000000000) return STATE;
    if (lost == 1) fund += asked.amount;
    asked.state = lost == 1 ? 2 : 3;
    return 1;
  }

  int complain(int farm, int season) {
    if (!isFarm(farm) || !in(season, 0, 15)) return NONE;
    if (farms.get(farm).term[season] == null) return STATE;
    if (complaints.stream().anyMatch(c -> c.farm == farm && c.season == season)) return STATE;
    if (complaints.size() == 20) return FULL;
    Complaint c = new Complaint();
    c.farm = farm;
    c.season = season;
    c.term = farms.get(farm).term[season];
    complaints.add(c);
    return complaints.size() - 1;
  }

  List<Farm> kin(Complaint c) {
    int gauge = gaugeOf(farms.get(c.farm), c.season);
    List<Farm> kin = new ArrayList<>();
    for (Farm f : farms) {
      if (gauge >= 0 && f.looks.containsKey(c.season) && gaugeOf(f, c.season) == gauge) kin.add(f);
    }
    return kin;
  }

  int judge(int complaint) {
    if (!in(complaint, 0, complaints.size() - 1)) return NONE;
    Complaint c = complaints.get(complaint);
    if (c.verdict != 0) return STATE;
    List<Farm> kin = kin(c);
    int[] hurt = kin.stream().mapToInt(f -> f.looks.get(c.season)[0] - f.looks.get(c.season)[1]
        - payOf(f, c.season, c.term, now())).filter(h -> h > 0).sorted().toArray();
    if (hurt.length <= kin.size() - hurt.length) {
      c.verdict = 2;
      return 0;
    }
    if (payments.size() == 200) return FULL;
    payments.add(paymentOf(c.farm, c.season, farms.get(c.farm).area * hurt[0]));
    c.verdict = 1;
    c.payment = payments.size() - 1;
    return 1;
  }

  int complaint(int c, int what) {
    if (!in(c, 0, complaints.size() - 1) || !in(what, 0, 5)) return -5;
    Complaint asked = complaints.get(c);
    return new int[] {asked.farm, asked.season, asked.term, asked.verdict, asked.payment, kin(asked).size()}[what];
  }

  int debt(int farm) {
    return isFarm(farm) ? farms.get(farm).debt : NONE;
  }

  // ---- groups

  int group(int farm, int g) {
    if (!isFarm(farm)) return NONE;
    if (!in(g, -1, 3)) return -5;
    int was = farms.get(farm).group;
    farms.get(farm).group = g;
    return was;
  }

  int vote(int farm, int rule) {
    if (!isFarm(farm)) return NONE;
    if (!in(rule, 0, 2)) return BAD;
    int was = farms.get(farm).rule;
    farms.get(farm).rule = rule;
    return was;
  }

  int share(int farm, int season) {
    if (!isFarm(farm) || !in(season, 0, 15)) return -5;
    int group = farms.get(farm).group;
    if (group < 0) return due(farm, season, now());
    int[] members = IntStream.range(0, farms.size()).filter(f -> farms.get(f).group == group).toArray();
    int[] votes = new int[3];
    for (int m : members) votes[farms.get(m).rule]++;
    int rule = votes[0] >= votes[1] && votes[0] >= votes[2] ? 0 : votes[1] >= votes[2] ? 1 : 2;
    long[] weights = new long[members.length];
    for (int i = 0; i < members.length; i++) {
      Farm f = farms.get(members[i]);
      int loss = f.looks.getOrDefault(season, new int[2])[0];
      weights[i] = new long[] {1, f.area, (long) f.area * loss}[rule];
    }
    if (java.util.Arrays.stream(weights).sum() == 0) java.util.Arrays.fill(weights, 1);
    long all = java.util.Arrays.stream(weights).sum();
    long sum = IntStream.of(members).mapToLong(m -> due(m, season, now())).sum();
    long[] parts = new long[members.length];
    long left = sum;
    for (int i = 0; i < parts.length; i++) {
      parts[i] = sum * weights[i] / all;
      left -= parts[i];
    }
    for (int i = 0; left > 0; i = (i + 1) % parts.length) {
      parts[i]++;
      left--;
    }
    for (int i = 0; i < parts.length; i++) if (members[i] == farm) return (int) parts[i];
    throw new IllegalStateException("not a member of its own group");
  }

  // ---- acts, sheets

  /** The KIND above each. */
  private static final int[] ABOVE = {-1, 0, 1, 0};
  /** The numbers of the bodies: drinks, wilts, yields of each KIND; 0 without one. */
  private static final int[][] BODIES = {{10, 11, 12}, {20, 0, 0}, {0, 30, 31}, {41, 40, 0}};

  int run(int farm, int from, int act, int x) {
    int kind = from;
    while (BODIES[kind][act] == 0) kind = ABOVE[kind];
    Farm f = farms.get(farm);
    ran.add(BODIES[kind][act]);
    switch (BODIES[kind][act]) {
      case 10: return x + f.area;
      case 11: return run(farm, f.crop, 0, x) * 3;
      case 12: return run(farm, f.crop, 1, x) ^ run(farm, f.crop, 0, x - 1);
      case 20: return run(farm, ABOVE[kind], 0, x) - farm;
      case 30: return run(farm, ABOVE[kind], 1, x) + 1;
      case 31: return run(farm, ABOVE[kind], 2, x + 2);
      case 40: return run(farm, ABOVE[kind], 1, x) * 2;
      default: return run(farm, ABOVE[kind], 0, x) ^ 5;
    }
  }

  int act(int farm, int act, int x) {
    ran.clear();
    return isFarm(farm) && in(act, 0, 2) ? run(farm, farms.get(farm).crop, act, x) : 0;
  }

  int trace(int i) {
    return in(i, 0, Math.min(20, ran.size()) - 1) ? ran.get(i) : NONE;
  }

  int taken(int farm, int k) {
    if (!in(k, 0, 3)) return BAD;
    if (!isFarm(farm)) return -11;
    for (int kind = farms.get(farm).crop; kind >= 0; kind = ABOVE[kind]) if (kind == k) return farms.get(farm).crop;
    return -13;
  }

  int count(int what) {
    if (!in(what, 0, 11)) return BAD;
    return new int[] {gauges.size(), tellings.size(), terms.size(), farms.size(), covers, looks(), sites.size(),
      payments.size(), tape.length(), (int) fund, ran.size(), complaints.size()}[what];
  }

  int sheet(int sheet, int sort, int n) {
    if (!in(sheet, 0, 2) || !in(sort, -1, 2)) return BAD;
    if (sort >= 0 && n > 40) return BAD;
    if (sort >= 0 && n < 0) return -14;
    sorts[sheet] = sort;
    sheets[sheet] = sort < 0 ? null : new int[n];
    return 1;
  }

  int cell(int sheet, int i, int v) {
    if (!in(sheet, 0, 2)) return BAD;
    if (sheets[sheet] == null) return -11;
    if (!in(i, 0, sheets[sheet].length - 1)) return -12;
    int bits = new int[] {24, 16, 0}[sorts[sheet]];
    sheets[sheet][i] = v << bits >> bits;
    return 1;
  }

  int copy(int sheet, int i, int other, int j, int n) {
    if (!in(sheet, 0, 2) || !in(other, 0, 2)) return BAD;
    if (sheets[sheet] == null || sheets[other] == null) return -11;
    if (sorts[sheet] != sorts[other]) return -13;
    if (n < 0 || i < 0 || j < 0) return -12;
    if ((long) i + n > sheets[sheet].length || (long) j + n > sheets[other].length) return -12;
    int[] before = sheets[sheet].clone();
    for (int x = 0; x < n; x++) sheets[other][j + x] = before[i + x];
    return n;
  }
}
