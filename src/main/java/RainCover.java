import java.util.ArrayList;
import java.util.Arrays;

/**
 * Cover that pays by rain that did not fall: gauges, terms, farms, fields looked at, prices, paying, groups.
 * The words in capitals are those of the document.
 */
public final class RainCover {
  public static final int NONE = -1, BAD = -2, STATE = -3, FULL = -4;
  public static final long NO = Long.MIN_VALUE;

  private static final int NO_SUCH = -5, FAULT = -10, MISSING = -11, NO_ITEM = -12, OTHER_SORT = -13, BELOW_ZERO = -14;
  private static final int GAP = -1;

  private static final int SEASONS = 16, WEEKS = 12, GAUGES = 8, DISTRICTS = 4, TERMS = 8, FARMS = 24, SITES = 8;
  private static final int MOST_COVERS = 60, MOST_LOOKS = 80, MOST_PAYMENTS = 200, MOST_COMPLAINTS = 20;
  private static final int SIDE = 100, DISTRICT_WIDTH = 25, FARTHEST = 198;
  private static final int MOST_RAIN = 9999, MOST_GREEN = 100, MOST_LOSS = 9999, MOST_AREA = 99;
  private static final int LAST_PLANT = 5, LAST_CROP = 3, LAST_GROUP = 3, RULES = 3;
  private static final int KNOWN_WEEKS = 6, BAND_WIDTH = 20, LAST_BAND = 3, MOST_CHOSEN = 4, MOST_THROWS = 40;
  private static final int MOST_MONEY = 2000000000, MOST_MOVED = 1000000000;
  private static final int[] DRYNESS = {100, 80, 120, 60};

  private static final int REACH = 0, SLACK = 1, LOAD = 2, SUBSIDY = 3;
  private static final int[] MOST_LAW = {198, 9999, 300, 100};

  // Columns of the tables: the first two of each are the FARM and the SEASON.
  private static final int FARM = 0, SEASON = 1;
  private static final int COVER_TERM = 2, COVER_TILL = 3;
  private static final int LOSS = 2, DOUBT = 3;
  private static final int AMOUNT = 2, PROGRESS = 3;
  private static final int COMPLAINT_TERM = 2, VERDICT = 3, AWARD = 4;

  private static final int WAITING = 0, SENT = 1, LOST = 2, GOT = 3;
  private static final int OPEN = 0, RIGHT = 1, WRONG = 2;
  private static final int EVENLY = 0, BY_AREA = 1;

  private final ArrayList<Gauge> gauges = new ArrayList<Gauge>();
  private final ArrayList<Term> terms = new ArrayList<Term>();
  private final ArrayList<Farm> farms = new ArrayList<Farm>();
  // A SITE is a PLACE where a GAUGE might stand, so it is held as one.
  private final ArrayList<Gauge> sites = new ArrayList<Gauge>();
  private final Tellings tellings = new Tellings();
  private final Tape tape = new Tape();
  private final int[] laws = {40, 500, 20, 0};
  private final int[] plants = new int[DISTRICTS];
  private final Table covers = new Table(MOST_COVERS, 4);
  private final Table looks = new Table(MOST_LOOKS, 4);
  private final Table payments = new Table(MOST_PAYMENTS, 4);
  private final Table complaints = new Table(MOST_COMPLAINTS, 5);
  private final Sheet[] sheets = {new Sheet(), new Sheet(), new Sheet()};
  private int money = 0;
  private int z = 1;
  private Crop actor = null;
  // Rows that are used again by each call, since what a run makes is counted.
  private final int[] wet = new int[WEEKS];
  private final int[] lush = new int[WEEKS];
  private final int[] perSeason = new int[SEASONS];
  private final int[] perFarm = new int[FARMS];

  public RainCover() {
  }

  // ---- rain

  public int gauge(int x, int y, int season) {
    if (!isPlace(x, y)) return BAD;
    if (!isSeason(season)) return NONE;
    if (gauges.size() >= GAUGES) return FULL;
    gauges.add(new Gauge(x, y, season));
    return gauges.size() - 1;
  }

  public int down(int gauge, int season) {
    if (!isGauge(gauge) || !within(season, 0, SEASONS)) return NONE;
    gauges.get(gauge).till = season;
    return 1;
  }

  public int law(int what, int v) {
    if (!within(what, REACH, SUBSIDY)) return NONE;
    if (!within(v, 0, MOST_LAW[what])) return BAD;
    int was = laws[what];
    laws[what] = v;
    return was;
  }

  public int rain(int gauge, int season, int week, int v) {
    if (!isGaugeWeek(gauge, season, week)) return NONE;
    if (!within(v, GAP, MOST_RAIN)) return BAD;
    if (!tellings.haveRoomFor(1)) return FULL;
    return tellings.tell(gauge, season, week, v);
  }

  public int green(int district, int season, int week, int v) {
    if (!isDistrictWeek(district, season, week)) return NONE;
    if (!within(v, GAP, MOST_GREEN)) return BAD;
    if (!tellings.haveRoomFor(1)) return FULL;
    return tellings.tell(GAUGES + district, season, week, v);
  }

  public int seen(int district, int season, int week, int k) {
    if (!isDistrictWeek(district, season, week) || k < 0) return NO_SUCH;
    return tellings.asKnown(GAUGES + district, season, week, k);
  }

  public int lay(int gauge, int season, int sheet, int sort, int i) {
    if (!isGauge(gauge) || !isSeason(season)) return NONE;
    if (!isSheet(sheet) || !Sheet.isSort(sort)) return BAD;
    Sheet from = sheets[sheet];
    if (!from.isMissing() && from.sort != sort) return OTHER_SORT;
    if (from.isMissing()) return MISSING;
    if (!from.hasItems(i, WEEKS)) return NO_ITEM;
    if (!tellings.haveRoomFor(WEEKS)) return FULL;
    int last = 0;
    for (int week = 0; week < WEEKS; week++) {
      int v = from.items[i + week];
      last = tellings.tell(gauge, season, week, within(v, 0, MOST_RAIN) ? v : GAP);
    }
    return last;
  }

  public int told(int gauge, int season, int week, int k) {
    if (!isGaugeWeek(gauge, season, week) || k < 0) return NO_SUCH;
    return tellings.asKnown(gauge, season, week, k);
  }

  public int filled(int gauge, int season, int week, int k) {
    if (!isGaugeWeek(gauge, season, week) || k < 0) return NO_SUCH;
    return fill(gauge, season, week, k);
  }

  public int span(int gauge, int season, int week, int what) {
    if (!isGaugeWeek(gauge, season, week) || !within(what, 0, 1)) return NO_SUCH;
    return extreme(gauge, season, week, what == 1);
  }

  public int odd(int gauge, int season) {
    if (!isGauge(gauge) || !isSeason(season)) return NONE;
    int n = 0;
    for (int week = 0; week < WEEKS; week++) {
      if (isOddWeek(gauge, season, week)) n++;
    }
    return n;
  }

  private boolean isOddWeek(int gauge, int season, int week) {
    int own = tellings.asKnown(gauge, season, week, now());
    int least = extreme(gauge, season, week, false);
    if (own == GAP || least == NONE) return false;
    int greatest = extreme(gauge, season, week, true);
    return least - own > laws[SLACK] || own - greatest > laws[SLACK];
  }

  /** LEAST or GREATEST of a WEEK, as known now; NONE without one. */
  private int extreme(int gauge, int season, int week, boolean greatest) {
    int found = NONE;
    Gauge here = gauges.get(gauge);
    for (int other = 0; other < gauges.size(); other++) {
      Gauge there = gauges.get(other);
      if (other == gauge || distance(here.x, here.y, there.x, there.y) > laws[REACH]) continue;
      int v = tellings.asKnown(other, season, week, now());
      if (v == GAP) continue;
      if (found == NONE || (greatest ? v > found : v < found)) found = v;
    }
    return found;
  }

  private int fill(int gauge, int season, int week, int k) {
    int own = tellings.asKnown(gauge, season, week, k);
    if (own != GAP) return own;
    int neighbour = nearestTold(gauge, season, week, k);
    if (neighbour != NONE) return tellings.asKnown(neighbour, season, week, k);
    return usualRain(gauge, week, k);
  }

  private int nearestTold(int gauge, int season, int week, int k) {
    int found = NONE;
    int least = laws[REACH] + 1;
    Gauge here = gauges.get(gauge);
    for (int other = 0; other < gauges.size(); other++) {
      if (other == gauge || tellings.asKnown(other, season, week, k) == GAP) continue;
      Gauge there = gauges.get(other);
      int apart = distance(here.x, here.y, there.x, there.y);
      if (apart < least) {
        least = apart;
        found = other;
      }
    }
    return found;
  }

  /** The mean over all SEASONS; the one that is asked for is a GAP itself, so it need not be left out. */
  private int usualRain(int gauge, int week, int k) {
    int sum = 0;
    int n = 0;
    for (int season = 0; season < SEASONS; season++) {
      int v = tellings.asKnown(gauge, season, week, k);
      if (v == GAP) continue;
      sum += v;
      n++;
    }
    return n == 0 ? 0 : sum / n;
  }

  // ---- terms

  public int feed(int bytes, int n) {
    if (!within(n, 0, 4)) return BAD;
    if (!tape.hasRoomFor(n)) return FULL;
    tape.append(bytes, n);
    return tape.length;
  }

  public int term() {
    if (terms.size() >= TERMS) return FULL;
    Term read = tape.read();
    int fault = tape.place;
    tape.length = 0;
    if (read == null) return FAULT - fault;
    if (!read.isSound()) return BAD;
    terms.add(read);
    return terms.size() - 1;
  }

  public int pay(int term, int gauge, int season, int plant, int crop) {
    if (!isTerm(term) || !isGauge(gauge) || !isSeason(season)) return NONE;
    if (!within(plant, 0, LAST_PLANT) || !within(crop, 0, LAST_CROP)) return BAD;
    return payOn(term, gauge, season, plant, crop, now());
  }

  private int payOn(int term, int gauge, int season, int plant, int kind, int k) {
    int district = GAUGES + gauges.get(gauge).x / DISTRICT_WIDTH;
    for (int week = 0; week < WEEKS; week++) {
      wet[week] = fill(gauge, season, week, k);
      lush[week] = tellings.asKnown(district, season, week, k);
    }
    return terms.get(term).amountFor(wet, lush, plant, DRYNESS[kind]);
  }

  // ---- farms

  public int farm(int x, int y, int crop, int area) {
    if (!isPlace(x, y) || !within(crop, 0, LAST_CROP) || !within(area, 1, MOST_AREA)) return BAD;
    int number = farms.size();
    if (number >= FARMS) return FULL;
    farms.add(new Farm(number, x, y, area, newCrop(crop, number, area)));
    return number;
  }

  private static Crop newCrop(int kind, int number, int area) {
    switch (kind) {
      case 1: return new Grain(number, area);
      case 2: return new Maize(number, area);
      case 3: return new Bean(number, area);
      default: return new Crop(number, area);
    }
  }

  public int plant(int district, int p) {
    if (!within(district, 0, DISTRICTS - 1)) return NONE;
    if (!within(p, 0, LAST_PLANT)) return BAD;
    int was = plants[district];
    plants[district] = p;
    return was;
  }

  public int enroll(int farm, int term, int season) {
    if (!isFarm(farm) || !isTerm(term) || !isSeason(season)) return NONE;
    for (int later = season; later < SEASONS; later++) {
      if (coverOf(farm, later) != NONE) return STATE;
    }
    if (covers.isFull()) return FULL;
    covers.add(farm, season, term, SEASONS);
    return 1;
  }

  public int lapse(int farm, int season) {
    if (!isFarm(farm) || !isSeason(season)) return NONE;
    int cover = coverOf(farm, season);
    if (cover == NONE) return STATE;
    int was = covers.at(cover, COVER_TILL);
    covers.put(cover, COVER_TILL, season);
    return was - season;
  }

  public int of(int farm, int season, int what) {
    if (!isFarm(farm) || !isSeason(season)) return NO_SUCH;
    Farm asked = farms.get(farm);
    switch (what) {
      case 0: return gaugeOf(asked, season);
      case 1: return termOf(farm, season);
      case 2: return distanceToGauge(asked, season);
      case 3: return coverOf(farm, season) == NONE ? NONE : payOf(asked, season, termOf(farm, season), now());
      case 4: return asked.district();
      case 5: return asked.settled[season];
      default: return NO_SUCH;
    }
  }

  public int due(int farm, int season, int k) {
    if (!isFarm(farm) || !isSeason(season) || k < 0) return NO_SUCH;
    return dueOf(farms.get(farm), season, k);
  }

  public int line(int season, int d, int what) {
    if (!isSeason(season) || !within(what, 0, 2)) return NONE;
    if (!within(d, 0, FARTHEST)) return BAD;
    gatherCoveredPays(season);
    int twos = 0;
    for (int lesser = 0; lesser < farms.size(); lesser++) {
      for (int greater = lesser + 1; greater < farms.size(); greater++) {
        if (!isOverLine(lesser, greater, season, d)) continue;
        if (what == 1) return lesser;
        if (what == 2) return greater;
        twos++;
      }
    }
    return what == 0 ? twos : NONE;
  }

  private void gatherCoveredPays(int season) {
    for (int farm = 0; farm < farms.size(); farm++) {
      int term = termOf(farm, season);
      perFarm[farm] = term == NONE ? 0 : payOf(farms.get(farm), season, term, now());
    }
  }

  /** Asks what is cheap first; perFarm holds the PAYS. */
  private boolean isOverLine(int one, int other, int season, int d) {
    Farm a = farms.get(one);
    Farm b = farms.get(other);
    if (perFarm[one] == perFarm[other] || distance(a.x, a.y, b.x, b.y) > d) return false;
    int term = termOf(one, season);
    if (term == NONE || term != termOf(other, season)) return false;
    int gauge = gaugeOf(a, season);
    return gauge == NONE || gauge != gaugeOf(b, season);
  }

  private int coverOf(int farm, int season) {
    for (int cover = 0; cover < covers.rows; cover++) {
      if (covers.at(cover, FARM) == farm && covers.at(cover, SEASON) <= season
          && season < covers.at(cover, COVER_TILL)) return cover;
    }
    return NONE;
  }

  private int termOf(int farm, int season) {
    int cover = coverOf(farm, season);
    return cover == NONE ? NONE : covers.at(cover, COVER_TERM);
  }

  private int gaugeOf(Farm farm, int season) {
    int found = NONE;
    int least = FARTHEST + 1;
    for (int g = 0; g < gauges.size(); g++) {
      Gauge gauge = gauges.get(g);
      int apart = distance(farm.x, farm.y, gauge.x, gauge.y);
      if (gauge.standsIn(season) && apart < least) {
        least = apart;
        found = g;
      }
    }
    return found;
  }

  private int distanceToGauge(Farm farm, int season) {
    int g = gaugeOf(farm, season);
    if (g == NONE) return NONE;
    Gauge gauge = gauges.get(g);
    return distance(farm.x, farm.y, gauge.x, gauge.y);
  }

  private int payOf(Farm farm, int season, int term, int k) {
    int gauge = gaugeOf(farm, season);
    return gauge == NONE ? 0 : payOn(term, gauge, season, plants[farm.district()], farm.crop.kind(), k);
  }

  private int dueOf(Farm farm, int season, int k) {
    int term = termOf(farm.number, season);
    return term == NONE ? 0 : farm.area * payOf(farm, season, term, k);
  }

  // ---- fields looked at, sites

  public int look(int farm, int season, int loss, int doubt) {
    if (!isFarm(farm) || !isSeason(season)) return NONE;
    if (!within(loss, 0, MOST_LOSS) || !within(doubt, 0, MOST_LOSS)) return BAD;
    int known = looks.find(farm, season);
    if (known == NONE && looks.isFull()) return FULL;
    if (known == NONE) {
      looks.add(farm, season, loss, doubt);
    } else {
      looks.put(known, LOSS, loss);
      looks.put(known, DOUBT, doubt);
    }
    return looks.rows;
  }

  public long basis(int term, int band, int part) {
    if (!isTerm(term) || !within(band, 0, LAST_BAND) || !within(part, 0, 1)) return NO;
    long sum = 0;
    int n = 0;
    for (int i = 0; i < looks.rows; i++) {
      if (bandOf(i) != band) continue;
      sum += missOf(i, term);
      n++;
    }
    return n == 0 ? NO : partOf(sum, n, part);
  }

  private int bandOf(int i) {
    int apart = distanceToGauge(farms.get(looks.at(i, FARM)), looks.at(i, SEASON));
    return apart == NONE ? NONE : Math.min(apart / BAND_WIDTH, LAST_BAND);
  }

  private int missOf(int i, int term) {
    int paid = payOf(farms.get(looks.at(i, FARM)), looks.at(i, SEASON), term, now());
    int off = Math.abs(paid - looks.at(i, LOSS));
    return Math.max(off - looks.at(i, DOUBT), 0);
  }

  public int site(int x, int y) {
    if (!isPlace(x, y)) return BAD;
    if (sites.size() >= SITES) return FULL;
    sites.add(new Gauge(x, y, 0));
    return sites.size() - 1;
  }

  public int best(int n, int what) {
    if (!within(n, 0, MOST_CHOSEN) || n > sites.size() || !within(what, 0, MOST_CHOSEN)) return NO_SUCH;
    gatherGaugeDistances();
    // SITE i is bit SITES - 1 - i: so of two sets the greater number has the lesser SITE where they first differ.
    int beyond = (1 << (SITES - sites.size())) - 1;
    int chosen = 0;
    int least = NONE;
    for (int set = (1 << SITES) - 1; set >= 0; set--) {
      if ((set & beyond) != 0 || Integer.bitCount(set) != n) continue;
      int far = farFor(set);
      if (least == NONE || far < least) {
        least = far;
        chosen = set;
      }
    }
    return what == 0 ? least : memberOf(chosen, what - 1);
  }

  private void gatherGaugeDistances() {
    for (int farm = 0; farm < farms.size(); farm++) {
      perFarm[farm] = distanceToGauge(farms.get(farm), SEASONS - 1);
    }
  }

  /** FAR for a set of SITES; perFarm holds the DISTANCES to the GAUGES. */
  private int farFor(int set) {
    int far = 0;
    for (int f = 0; f < farms.size(); f++) {
      Farm farm = farms.get(f);
      int least = perFarm[f];
      for (int i = 0; i < sites.size(); i++) {
        if (!hasSite(set, i)) continue;
        int apart = distance(farm.x, farm.y, sites.get(i).x, sites.get(i).y);
        if (least == NONE || apart < least) least = apart;
      }
      if (least != NONE) far += farm.area * least;
    }
    return far;
  }

  private static boolean hasSite(int set, int i) {
    return (set >> (SITES - 1 - i) & 1) == 1;
  }

  private static int memberOf(int set, int wanted) {
    int n = 0;
    for (int i = 0; i < SITES; i++) {
      if (!hasSite(set, i)) continue;
      if (n == wanted) return i;
      n++;
    }
    return NONE;
  }

  // ---- prices, the reserve

  public long mean(int term, int gauge, int plant, int crop, int part) {
    if (!isOffer(term, gauge, plant, crop) || !within(part, 0, 1)) return NO;
    int n = gatherPays(term, gauge, plant, crop);
    return n == 0 ? NO : partOf(sumOfPays(), n, part);
  }

  public int price(int term, int gauge, int plant, int crop, int what) {
    if (!isOffer(term, gauge, plant, crop)) return NONE;
    switch (what) {
      case 0: return priceOf(term, gauge, plant, crop);
      case 1: return roundedUp((long) priceOf(term, gauge, plant, crop) * (100 - laws[SUBSIDY]), 100);
      case 2: return gatherPays(term, gauge, plant, crop);
      default: return NONE;
    }
  }

  public long trend(int term, int gauge, int plant, int crop, int part) {
    if (!isOffer(term, gauge, plant, crop) || !within(part, 0, 1)) return NO;
    int n = gatherPays(term, gauge, plant, crop);
    if (n < 2) return NO;
    long numbers = 0;
    long squares = 0;
    long products = 0;
    for (int season = 0; season < SEASONS; season++) {
      if (perSeason[season] == NONE) continue;
      numbers += season;
      squares += season * season;
      products += (long) season * perSeason[season];
    }
    return partOf(n * products - numbers * sumOfPays(), n * squares - numbers * numbers, part);
  }

  public int beside(int first, int second, int gauge, int plant, int crop, int what) {
    if (!isTerm(first) || !isOffer(second, gauge, plant, crop) || !within(what, 0, 3)) return NONE;
    int n = 0;
    for (int season = 0; season < SEASONS; season++) {
      if (!isKnown(gauge, season)) continue;
      boolean one = payOn(first, gauge, season, plant, crop, now()) > 0;
      boolean other = payOn(second, gauge, season, plant, crop, now()) > 0;
      int found = one ? (other ? 2 : 0) : (other ? 1 : 3);
      if (found == what) n++;
    }
    return n;
  }

  public int foretold(int term, int gauge, int season, int week, int plant, int crop, int what) {
    if (!isOffer(term, gauge, plant, crop) || !isSeason(season)) return NONE;
    if (!within(week, 0, WEEKS) || !within(what, 0, 3)) return NONE;
    int least = 0;
    int greatest = 0;
    int sum = 0;
    int n = 0;
    for (int s = 0; s < SEASONS; s++) {
      if (s == season || !isKnown(gauge, s)) continue;
      gatherSpliced(gauge, season, week, s);
      int paid = terms.get(term).amountFor(wet, lush, plant, DRYNESS[crop]);
      least = n == 0 ? paid : Math.min(least, paid);
      greatest = Math.max(greatest, paid);
      sum += paid;
      n++;
    }
    switch (what) {
      case 0: return least;
      case 1: return greatest;
      case 2: return sum;
      default: return n;
    }
  }

  /** The rows of a SEASON as they are ahead of a WEEK, and from it on those of another SEASON. */
  private void gatherSpliced(int gauge, int season, int week, int other) {
    int district = GAUGES + gauges.get(gauge).x / DISTRICT_WIDTH;
    for (int w = 0; w < WEEKS; w++) {
      int from = w < week ? season : other;
      wet[w] = fill(gauge, from, w, now());
      lush[w] = tellings.asKnown(district, from, w, now());
    }
  }

  public int income(int q) {
    return isSeason(q) ? incomeIn(q) : NONE;
  }

  public int total(int s, int q) {
    return isSeason(s) && isSeason(q) ? totalOf(s, q) : NONE;
  }

  public int layer(int s, int q, int a, int b) {
    if (!isSeason(s) || !isSeason(q)) return NONE;
    if (!within(a, 0, MOST_MONEY) || !within(b, a, MOST_MONEY)) return BAD;
    return Math.min(Math.max(totalOf(s, q) - a, 0), b - a);
  }

  public int lots(int z) {
    this.z = z;
    return 1;
  }

  public int lasts(int reserve, int q, int n, int m) {
    if (!isSeason(q)) return NONE;
    if (!within(reserve, 0, MOST_MONEY) || !within(n, 1, MOST_THROWS) || !within(m, 1, MOST_THROWS)) return BAD;
    int income = incomeIn(q);
    int known = gatherTotals(q);
    if (known == 0) return STATE;
    int lasting = 0;
    for (int i = 0; i < m; i++) {
      if (rowLasts(reserve, income, n, known)) lasting++;
    }
    return lasting;
  }

  /** Goes on to the last throw, whatever comes, since each one moves z; perSeason holds the TOTALS of the YEARS. */
  private boolean rowLasts(long reserve, int income, int n, int known) {
    boolean lasting = true;
    for (int i = 0; i < n; i++) {
      z = z * 1103515245 + 12345;
      reserve += income - perSeason[(z >>> 8) % known];
      if (reserve < 0) lasting = false;
    }
    return lasting;
  }

  /** TOTAL of each YEAR for q, in order and without gaps, into perSeason; how many YEARS there are. */
  private int gatherTotals(int q) {
    int n = 0;
    for (int s = 0; s < SEASONS; s++) {
      if (!isYear(s, q)) continue;
      perSeason[n] = totalOf(s, q);
      n++;
    }
    return n;
  }

  private boolean isYear(int s, int q) {
    boolean any = false;
    for (int g = 0; g < gauges.size(); g++) {
      if (!gauges.get(g).standsIn(q)) continue;
      if (!isKnown(g, s)) return false;
      any = true;
    }
    return any;
  }

  private int incomeIn(int q) {
    int sum = 0;
    for (int f = 0; f < farms.size(); f++) {
      Farm farm = farms.get(f);
      int term = termOf(f, q);
      int gauge = gaugeOf(farm, q);
      if (term == NONE || gauge == NONE) continue;
      sum += farm.area * priceOf(term, gauge, plants[farm.district()], farm.crop.kind());
    }
    return sum;
  }

  private int totalOf(int s, int q) {
    int sum = 0;
    for (int f = 0; f < farms.size(); f++) {
      Farm farm = farms.get(f);
      int term = termOf(f, q);
      int gauge = gaugeOf(farm, q);
      if (term == NONE || gauge == NONE) continue;
      sum += farm.area * payOn(term, gauge, s, plants[farm.district()], farm.crop.kind(), now());
    }
    return sum;
  }

  private int priceOf(int term, int gauge, int plant, int kind) {
    int n = gatherPays(term, gauge, plant, kind);
    return n == 0 ? 0 : roundedUp(sumOfPays() * (100 + laws[LOAD]), 100L * n);
  }

  /** PAY of each SEASON that is KNOWN, NONE of the others, into perSeason; how many are KNOWN. */
  private int gatherPays(int term, int gauge, int plant, int kind) {
    int n = 0;
    for (int season = 0; season < SEASONS; season++) {
      perSeason[season] = NONE;
      if (!isKnown(gauge, season)) continue;
      perSeason[season] = payOn(term, gauge, season, plant, kind, now());
      n++;
    }
    return n;
  }

  private long sumOfPays() {
    long sum = 0;
    for (int season = 0; season < SEASONS; season++) {
      if (perSeason[season] != NONE) sum += perSeason[season];
    }
    return sum;
  }

  private boolean isKnown(int gauge, int season) {
    int n = 0;
    for (int week = 0; week < WEEKS; week++) {
      if (tellings.asKnown(gauge, season, week, now()) != GAP) n++;
    }
    return n >= KNOWN_WEEKS;
  }

  // ---- paying

  public int settle(int season) {
    if (!isSeason(season)) return NONE;
    int coming = 0;
    for (int f = 0; f < farms.size(); f++) {
      Farm farm = farms.get(f);
      perFarm[f] = dueOf(farm, season, now()) - farm.settled[season];
      if (perFarm[f] > farm.owes) coming++;
    }
    if (!payments.hasRoomFor(coming)) return FULL;
    for (int f = 0; f < farms.size(); f++) {
      settleFarm(farms.get(f), season, perFarm[f]);
    }
    return coming;
  }

  private void settleFarm(Farm farm, int season, int owed) {
    farm.settled[season] += owed;
    if (owed < 0) {
      farm.owes -= owed;
      return;
    }
    int off = Math.min(owed, farm.owes);
    farm.owes -= off;
    if (owed > off) payments.add(farm.number, season, owed - off, WAITING);
  }

  public int payment(int p, int what) {
    return payments.has(p) && within(what, FARM, PROGRESS) ? payments.at(p, what) : NO_SUCH;
  }

  public int fund(int v) {
    if (!within(v, -MOST_MOVED, MOST_MOVED)) return BAD;
    long would = (long) money + v;
    if (would < 0 || would > MOST_MONEY) return BAD;
    money = (int) would;
    return money;
  }

  public int send(int p) {
    if (!payments.has(p)) return NONE;
    int progress = payments.at(p, PROGRESS);
    int amount = payments.at(p, AMOUNT);
    if ((progress != WAITING && progress != LOST) || amount > money) return STATE;
    money -= amount;
    payments.put(p, PROGRESS, SENT);
    return 1;
  }

  public int arrive(int p, int lost) {
    if (!payments.has(p)) return NONE;
    if (!within(lost, 0, 1)) return BAD;
    if (payments.at(p, PROGRESS) != SENT) return STATE;
    if (lost == 0) {
      payments.put(p, PROGRESS, GOT);
      return 1;
    }
    int amount = payments.at(p, AMOUNT);
    if (amount > MOST_MONEY - money) return STATE;
    money += amount;
    payments.put(p, PROGRESS, LOST);
    return 1;
  }

  public int complain(int farm, int season) {
    if (!isFarm(farm) || !isSeason(season)) return NONE;
    int term = termOf(farm, season);
    if (term == NONE || complaints.find(farm, season) != NONE) return STATE;
    if (complaints.isFull()) return FULL;
    int number = complaints.add(farm, season, term, OPEN);
    complaints.put(number, AWARD, NONE);
    return number;
  }

  public int judge(int complaint) {
    if (!complaints.has(complaint)) return NONE;
    if (complaints.at(complaint, VERDICT) != OPEN) return STATE;
    int balance = 0;
    int least = 0;
    for (int i = 0; i < looks.rows; i++) {
      if (!isKin(complaint, i)) continue;
      int hurt = hurtOf(complaint, i);
      balance += hurt > 0 ? 1 : -1;
      if (hurt > 0 && (least == 0 || hurt < least)) least = hurt;
    }
    if (balance <= 0) {
      complaints.put(complaint, VERDICT, WRONG);
      return 0;
    }
    if (payments.isFull()) return FULL;
    award(complaint, least);
    return 1;
  }

  private void award(int complaint, int hurt) {
    int farm = complaints.at(complaint, FARM);
    int amount = farms.get(farm).area * hurt;
    int number = payments.add(farm, complaints.at(complaint, SEASON), amount, WAITING);
    complaints.put(complaint, VERDICT, RIGHT);
    complaints.put(complaint, AWARD, number);
  }

  public int complaint(int c, int what) {
    if (!complaints.has(c)) return NO_SUCH;
    if (what == 5) return kinOf(c);
    return within(what, FARM, AWARD) ? complaints.at(c, what) : NO_SUCH;
  }

  private int kinOf(int complaint) {
    int n = 0;
    for (int i = 0; i < looks.rows; i++) {
      if (isKin(complaint, i)) n++;
    }
    return n;
  }

  private boolean isKin(int complaint, int i) {
    int season = complaints.at(complaint, SEASON);
    if (looks.at(i, SEASON) != season) return false;
    int gauge = gaugeOf(farms.get(complaints.at(complaint, FARM)), season);
    return gauge != NONE && gauge == gaugeOf(farms.get(looks.at(i, FARM)), season);
  }

  private int hurtOf(int complaint, int i) {
    Farm farm = farms.get(looks.at(i, FARM));
    int paid = payOf(farm, looks.at(i, SEASON), complaints.at(complaint, COMPLAINT_TERM), now());
    return looks.at(i, LOSS) - looks.at(i, DOUBT) - paid;
  }

  public int debt(int farm) {
    return isFarm(farm) ? farms.get(farm).owes : NONE;
  }

  // ---- groups

  public int group(int farm, int g) {
    if (!isFarm(farm)) return NONE;
    if (!within(g, NONE, LAST_GROUP)) return NO_SUCH;
    Farm asked = farms.get(farm);
    int was = asked.circle;
    asked.circle = g;
    return was;
  }

  public int vote(int farm, int rule) {
    if (!isFarm(farm)) return NONE;
    if (!within(rule, 0, RULES - 1)) return BAD;
    Farm asked = farms.get(farm);
    int was = asked.choice;
    asked.choice = rule;
    return was;
  }

  public int share(int farm, int season) {
    if (!isFarm(farm) || !isSeason(season)) return NO_SUCH;
    Farm asked = farms.get(farm);
    if (asked.circle == NONE) return dueOf(asked, season, now());
    long sum = dueOfGroup(asked.circle, season);
    int rule = ruleOf(asked.circle);
    if (weightOfGroup(asked.circle, season, rule) == 0) rule = EVENLY;
    long all = weightOfGroup(asked.circle, season, rule);
    if (all == 0) return 0;
    long left = sum;
    int ahead = 0;
    for (int f = 0; f < farms.size(); f++) {
      Farm member = farms.get(f);
      if (member.circle != asked.circle) continue;
      left -= sum * weightOf(member, season, rule) / all;
      if (f < farm) ahead++;
    }
    return (int) (sum * weightOf(asked, season, rule) / all) + (ahead < left ? 1 : 0);
  }

  private long dueOfGroup(int group, int season) {
    long sum = 0;
    for (int f = 0; f < farms.size(); f++) {
      if (farms.get(f).circle == group) sum += dueOf(farms.get(f), season, now());
    }
    return sum;
  }

  private int ruleOf(int group) {
    int chosen = EVENLY;
    int most = 0;
    for (int rule = 0; rule < RULES; rule++) {
      int votes = votesFor(group, rule);
      if (votes > most) {
        most = votes;
        chosen = rule;
      }
    }
    return chosen;
  }

  private int votesFor(int group, int rule) {
    int votes = 0;
    for (int f = 0; f < farms.size(); f++) {
      if (farms.get(f).circle == group && farms.get(f).choice == rule) votes++;
    }
    return votes;
  }

  private long weightOfGroup(int group, int season, int rule) {
    long all = 0;
    for (int f = 0; f < farms.size(); f++) {
      if (farms.get(f).circle == group) all += weightOf(farms.get(f), season, rule);
    }
    return all;
  }

  private long weightOf(Farm farm, int season, int rule) {
    if (rule == EVENLY) return 1;
    if (rule == BY_AREA) return farm.area;
    int known = looks.find(farm.number, season);
    return known == NONE ? 0 : farm.area * looks.at(known, LOSS);
  }

  // ---- acts, sheets

  public int act(int farm, int act, int x) {
    actor = null;
    if (!isFarm(farm) || !within(act, 0, 2)) return 0;
    actor = farms.get(farm).crop;
    actor.ran = 0;
    switch (act) {
      case 0: return actor.drinks(x);
      case 1: return actor.wilts(x);
      default: return actor.yields(x);
    }
  }

  public int trace(int i) {
    if (actor == null || !within(i, 0, Math.min(actor.ran, Crop.KEPT) - 1)) return NONE;
    return actor.bodies[i];
  }

  public int taken(int farm, int k) {
    if (!within(k, 0, LAST_CROP)) return BAD;
    if (!isFarm(farm)) return MISSING;
    Crop crop = farms.get(farm).crop;
    boolean fits;
    switch (k) {
      case 1: fits = crop instanceof Grain; break;
      case 2: fits = crop instanceof Maize; break;
      case 3: fits = crop instanceof Bean; break;
      default: fits = true; break;
    }
    return fits ? crop.kind() : OTHER_SORT;
  }

  public int count(int what) {
    switch (what) {
      case 0: return gauges.size();
      case 1: return now();
      case 2: return terms.size();
      case 3: return farms.size();
      case 4: return covers.rows;
      case 5: return looks.rows;
      case 6: return sites.size();
      case 7: return payments.rows;
      case 8: return tape.length;
      case 9: return money;
      case 10: return actor == null ? 0 : actor.ran;
      case 11: return complaints.rows;
      default: return BAD;
    }
  }

  public int sheet(int sheet, int sort, int n) {
    if (!isSheet(sheet)) return BAD;
    if (sort == Sheet.NO_SORT) {
      sheets[sheet].become(sort, 0);
      return 1;
    }
    if (!Sheet.isSort(sort) || n > Sheet.MOST) return BAD;
    if (n < 0) return BELOW_ZERO;
    sheets[sheet].become(sort, n);
    return 1;
  }

  public int cell(int sheet, int i, int v) {
    if (!isSheet(sheet)) return BAD;
    Sheet into = sheets[sheet];
    if (into.isMissing()) return MISSING;
    if (!into.hasItems(i, 1)) return NO_ITEM;
    into.store(i, v);
    return 1;
  }

  public int copy(int sheet, int i, int other, int j, int n) {
    if (!isSheet(sheet) || !isSheet(other)) return BAD;
    Sheet from = sheets[sheet];
    Sheet to = sheets[other];
    if (from.isMissing() || to.isMissing()) return MISSING;
    if (from.sort != to.sort) return OTHER_SORT;
    if (!from.hasItems(i, n) || !to.hasItems(j, n)) return NO_ITEM;
    System.arraycopy(from.items, i, to.items, j, n);
    return n;
  }

  // ---- what all calls ask

  private static boolean within(int v, int low, int high) {
    return low <= v && v <= high;
  }

  private static boolean isPlace(int x, int y) {
    return within(x, 0, SIDE - 1) && within(y, 0, SIDE - 1);
  }

  private static boolean isSeason(int season) {
    return within(season, 0, SEASONS - 1);
  }

  private boolean isGauge(int gauge) {
    return within(gauge, 0, gauges.size() - 1);
  }

  private boolean isTerm(int term) {
    return within(term, 0, terms.size() - 1);
  }

  private boolean isFarm(int farm) {
    return within(farm, 0, farms.size() - 1);
  }

  private boolean isSheet(int sheet) {
    return within(sheet, 0, sheets.length - 1);
  }

  private boolean isGaugeWeek(int gauge, int season, int week) {
    return isGauge(gauge) && isSeason(season) && within(week, 0, WEEKS - 1);
  }

  private static boolean isDistrictWeek(int district, int season, int week) {
    return within(district, 0, DISTRICTS - 1) && isSeason(season) && within(week, 0, WEEKS - 1);
  }

  private boolean isOffer(int term, int gauge, int plant, int crop) {
    return isTerm(term) && isGauge(gauge) && within(plant, 0, LAST_PLANT) && within(crop, 0, LAST_CROP);
  }

  /** The k of "as known now". */
  private int now() {
    return tellings.last;
  }

  private static int distance(int x, int y, int otherX, int otherY) {
    int across = x > otherX ? x - otherX : otherX - x;
    int along = y > otherY ? y - otherY : otherY - y;
    return across + along;
  }

  private static int roundedUp(long above, long below) {
    return below <= 0 ? 0 : (int) ((above + below - 1) / below);
  }

  /** One part of a fraction without a common divisor; below is above 0. */
  private static long partOf(long above, long below, int part) {
    long divisor = commonDivisor(Math.abs(above), below);
    if (divisor == 0) return NO;
    return part == 0 ? above / divisor : below / divisor;
  }

  private static long commonDivisor(long a, long b) {
    for (int i = 0; i < 100 && b != 0; i++) {
      long rest = a % b;
      a = b;
      b = rest;
    }
    return a;
  }

  /** A GAUGE, or a PLACE for one. */
  private static final class Gauge {
    final int x;
    final int y;
    final int from;
    int till = SEASONS;

    Gauge(int x, int y, int from) {
      this.x = x;
      this.y = y;
      this.from = from;
    }

    boolean standsIn(int season) {
      return from <= season && season < till;
    }
  }

  /** All TELLINGS. Each knows the one that it took the place of, so every moment can be read again. */
  private static final class Tellings {
    static final int MOST = 700;

    // Rows 0 .. 7 are those of the GAUGES, 8 .. 11 those of the DISTRICTS.
    private final int[] latest = new int[(GAUGES + DISTRICTS) * SEASONS * WEEKS];
    private final int[] earlier = new int[MOST + 1];
    private final int[] values = new int[MOST + 1];
    int last = 0;

    boolean haveRoomFor(int n) {
      return last + n <= MOST;
    }

    int tell(int row, int season, int week, int v) {
      int spot = (row * SEASONS + season) * WEEKS + week;
      last++;
      earlier[last] = latest[spot];
      values[last] = v;
      latest[spot] = last;
      return last;
    }

    int asKnown(int row, int season, int week, int k) {
      int number = latest[(row * SEASONS + season) * WEEKS + week];
      for (int i = 0; i < MOST && number > k; i++) number = earlier[number];
      return number == 0 ? GAP : values[number];
    }
  }

  /** What THE TAPE says, once it is read. */
  private static final class Term {
    static final int SUM = 0, DRY = 1, GREEN = 2, WEEK = 3;
    static final int MOST_CASES = 4;
    private static final int NOTHING = -1;

    boolean isRate = false;
    int amount;
    int step;
    int bound;
    int most;
    // A rate TERM has its one sum as case 0.
    int cases = 0;
    final int[] sorts = new int[MOST_CASES];
    final int[] starts = new int[MOST_CASES];
    final int[] ends = new int[MOST_CASES];
    final boolean[] above = new boolean[MOST_CASES];
    final int[] bounds = new int[MOST_CASES];

    boolean isSound() {
      for (int i = 0; i < cases; i++) {
        if (starts[i] > ends[i] || ends[i] >= WEEKS) return false;
      }
      return !isRate || step > 0;
    }

    int amountFor(int[] wet, int[] lush, int plant, int dryness) {
      if (isRate) return rateFor(measure(0, wet, lush, plant, dryness));
      for (int i = 0; i < cases; i++) {
        int v = measure(i, wet, lush, plant, dryness);
        boolean so = v != NOTHING && (above[i] ? v > bounds[i] : v < bounds[i]);
        if (!so) return 0;
      }
      return amount;
    }

    private int rateFor(int sum) {
      return sum >= bound || step <= 0 ? 0 : Math.min((bound - sum) / step * amount, most);
    }

    private int measure(int i, int[] wet, int[] lush, int plant, int dryness) {
      int first = starts[i] + plant;
      int last = Math.min(ends[i] + plant, WEEKS - 1);
      switch (sorts[i]) {
        case SUM: return sumFrom(wet, first, last);
        case DRY: return longestDry(wet, first, last, dryness);
        case GREEN: return greatest(lush, first, last);
        default: return first < WEEKS ? wet[first] : NOTHING;
      }
    }

    private static int sumFrom(int[] row, int first, int last) {
      int sum = 0;
      for (int week = first; week <= last; week++) sum += row[week];
      return sum;
    }

    private static int longestDry(int[] row, int first, int last, int dryness) {
      int longest = 0;
      int length = 0;
      for (int week = first; week <= last; week++) {
        length = row[week] < dryness ? length + 1 : 0;
        if (length > longest) longest = length;
      }
      return longest;
    }

    /** NOTHING if all are GAPS, since a GAP is less than any GREEN. */
    private static int greatest(int[] row, int first, int last) {
      int found = NOTHING;
      for (int week = first; week <= last; week++) {
        if (row[week] > found) found = row[week];
      }
      return found;
    }
  }

  /** THE TAPE, and the reading of it: place is how far it goes, and the FAULT once it has failed. */
  private static final class Tape {
    private static final int MOST = 100, LONG = 4, SHORT = 2;

    private final byte[] bytes = new byte[MOST];
    int length = 0;
    int place = 0;
    private boolean failed = false;

    boolean hasRoomFor(int n) {
      return length + n <= MOST;
    }

    void append(int number, int n) {
      for (int i = n - 1; i >= 0 && length < MOST; i--) {
        bytes[length] = (byte) (number >> (8 * i));
        length++;
      }
    }

    /** The TERM, or null if there is a FAULT. */
    Term read() {
      place = 0;
      failed = false;
      Term read = new Term();
      if (next() == 'r') {
        readRate(read);
      } else {
        readPay(read);
      }
      return failed || place < length ? null : read;
    }

    private void readRate(Term read) {
      read.isRate = true;
      word("rate ");
      read.amount = number(LONG);
      word(" per ");
      read.step = number(LONG);
      word(" below ");
      read.bound = number(LONG);
      word(" of sum ");
      readSpan(read, 0);
      word(" max ");
      read.most = number(LONG);
      read.sorts[0] = Term.SUM;
      read.cases = 1;
    }

    private void readPay(Term read) {
      word("pay ");
      read.amount = number(LONG);
      word(" if ");
      readCase(read, 0);
      read.cases = 1;
      for (int i = 1; i < Term.MOST_CASES && !failed && place < length; i++) {
        word(" and ");
        readCase(read, i);
        read.cases = i + 1;
      }
    }

    private void readCase(Term read, int i) {
      switch (next()) {
        case 's':
          read.sorts[i] = Term.SUM;
          word("sum ");
          readSpan(read, i);
          break;
        case 'd':
          read.sorts[i] = Term.DRY;
          word("dry ");
          readSpan(read, i);
          break;
        case 'g':
          read.sorts[i] = Term.GREEN;
          word("green ");
          readSpan(read, i);
          break;
        default:
          read.sorts[i] = Term.WEEK;
          word("week ");
          read.starts[i] = number(SHORT);
          read.ends[i] = read.starts[i];
          break;
      }
      word(" ");
      read.above[i] = next() == '>';
      word(read.above[i] ? ">" : "<");
      word(" ");
      read.bounds[i] = number(LONG);
    }

    private void readSpan(Term read, int i) {
      read.starts[i] = number(SHORT);
      word(" to ");
      read.ends[i] = number(SHORT);
    }

    /** The byte at the place; -1, as no byte that is asked for, behind the end. */
    private int next() {
      return place < length ? bytes[place] : -1;
    }

    private void word(String text) {
      for (int i = 0; i < text.length() && !failed; i++) {
        if (next() == text.charAt(i)) {
          place++;
        } else {
          failed = true;
        }
      }
    }

    private int number(int most) {
      int v = 0;
      int digits = 0;
      while (digits < most && !failed && next() >= '0' && next() <= '9') {
        v = v * 10 + next() - '0';
        place++;
        digits++;
      }
      if (digits == 0) failed = true;
      return v;
    }
  }

  private static final class Farm {
    final int number;
    final int x;
    final int y;
    final int area;
    final Crop crop;
    final int[] settled = new int[SEASONS];
    int owes = 0;
    int circle = NONE;
    int choice = EVENLY;

    Farm(int number, int x, int y, int area, Crop crop) {
      this.number = number;
      this.x = x;
      this.y = y;
      this.area = area;
      this.crop = crop;
    }

    int district() {
      return x / DISTRICT_WIDTH;
    }
  }

  /** The CROP of one FARM. It keeps the numbers of its bodies that ran in its latest act. */
  private static class Crop {
    static final int KEPT = 20;

    final int number;
    private final int area;
    final int[] bodies = new int[KEPT];
    int ran = 0;

    Crop(int number, int area) {
      this.number = number;
      this.area = area;
    }

    final void runs(int body) {
      if (ran < KEPT) bodies[ran] = body;
      ran++;
    }

    int kind() {
      return 0;
    }

    int drinks(int x) {
      runs(10);
      return x + area;
    }

    int wilts(int x) {
      runs(11);
      return drinks(x) * 3;
    }

    int yields(int x) {
      runs(12);
      return wilts(x) ^ drinks(x - 1);
    }
  }

  private static class Grain extends Crop {
    Grain(int number, int area) {
      super(number, area);
    }

    int kind() {
      return 1;
    }

    int drinks(int x) {
      runs(20);
      return super.drinks(x) - number;
    }
  }

  private static final class Maize extends Grain {
    Maize(int number, int area) {
      super(number, area);
    }

    int kind() {
      return 2;
    }

    int wilts(int x) {
      runs(30);
      return super.wilts(x) + 1;
    }

    int yields(int x) {
      runs(31);
      return super.yields(x + 2);
    }
  }

  private static final class Bean extends Crop {
    Bean(int number, int area) {
      super(number, area);
    }

    int kind() {
      return 3;
    }

    int wilts(int x) {
      runs(40);
      return super.wilts(x) * 2;
    }

    int drinks(int x) {
      runs(41);
      return super.drinks(x) ^ 5;
    }
  }

  /** Rows of a few numbers each, as they came; the first two of each are a FARM and a SEASON. */
  private static final class Table {
    private final int most;
    private final int width;
    private final int[] numbers;
    int rows = 0;

    Table(int most, int width) {
      this.most = most;
      this.width = width;
      this.numbers = new int[most * width];
    }

    boolean has(int row) {
      return within(row, 0, rows - 1);
    }

    boolean isFull() {
      return rows >= most;
    }

    boolean hasRoomFor(int n) {
      return rows + n <= most;
    }

    int add(int farm, int season, int third, int fourth) {
      int start = rows * width;
      numbers[start] = farm;
      numbers[start + 1] = season;
      numbers[start + 2] = third;
      numbers[start + 3] = fourth;
      rows++;
      return rows - 1;
    }

    int at(int row, int column) {
      return numbers[row * width + column];
    }

    void put(int row, int column, int v) {
      numbers[row * width + column] = v;
    }

    int find(int farm, int season) {
      for (int row = 0; row < rows; row++) {
        if (at(row, FARM) == farm && at(row, SEASON) == season) return row;
      }
      return NONE;
    }
  }

  /** A SHEET: its items are kept as ints, each cut to its sort when it is stored. */
  private static final class Sheet {
    static final int MOST = 40, NO_SORT = -1;
    private static final int BYTES = 0, SHORTS = 1, INTS = 2;

    int sort = NO_SORT;
    private int length = 0;
    final int[] items = new int[MOST];

    static boolean isSort(int sort) {
      return within(sort, BYTES, INTS);
    }

    boolean isMissing() {
      return sort == NO_SORT;
    }

    boolean hasItems(int from, int n) {
      return from >= 0 && n >= 0 && from <= length - n;
    }

    void become(int newSort, int n) {
      sort = newSort;
      length = n;
      Arrays.fill(items, 0);
    }

    void store(int i, int v) {
      if (sort == BYTES) {
        items[i] = (byte) v;
      } else if (sort == SHORTS) {
        items[i] = (short) v;
      } else {
        items[i] = v;
      }
    }
  }
}
