/** ==== 4. and promises 27 to 35: what is SEEN, thunder, a game, years, STATUS, an image. */
final class EdgesOfSights {
  private static final int[] WILD = {Integer.MIN_VALUE, Integer.MAX_VALUE, -2, 256, 1 << 30};
  /** One who hums three HOURS, and is silent for two. */
  private static final String ONE = "person 3 2 4 1;tune 5 of 0;";
  private static final String TWO = "person 20 0 0 1;person 20 0 1 0;tune 3 of 0;joins 1;";

  private EdgesOfSights() {
  }

  static void all() {
    seeing();
    deepEdges();
    onlyTheLast();
    lookEdges();
    forgetting();
    thunderEdges();
    gameEdges();
    gamesByActs();
    yearsEdges();
    yearsByActs();
    statusEdges();
    imageEdges();
    restoreEdges();
  }

  // ---- 27 to 30

  private static void seeing() {
    Edge.by("4", "SEEN (at most 8): that one hummed a TUNE (or nothing, NONE) at the end of so many HOURS (1 to 20).");
    HummedTunes x = Check.told(ONE + "tune 6;");
    for (int i = 1; i <= 8; i++) {
      int many = i;
      Edge.due("the same eight times", () -> x.see(0, -1, 20), many);
    }
    Edge.refused("the ninth", x, 14, () -> x.see(0, -1, 20));
    Edge.by("Promise 27", "SEEN: how much is.");
    x.forget();
    Edge.due("tune 0, hour 1", () -> x.see(0, 0, 1), 1);
    Edge.due("the last tune, hour 20", () -> x.see(0, 1, 20), 2);
    Edge.due("nothing", () -> x.see(0, -1, 1), 3);
    Edge.due("it is no act", () -> x.count(9), 0);
    Edge.by("Promise 27", "NONE (STATUS 2): there are 8, no such TUNE (but NONE), not 1 to 20.");
    Edge.refused("tune 2 of two", x, 14, () -> x.see(0, 2, 1));
    Edge.refused("hours 0", x, 14, () -> x.see(0, 0, 0));
    Edge.refused("hours 21", x, 14, () -> x.see(0, 0, 21));
    Edge.refused("hours -1", x, 14, () -> x.see(0, 0, -1));
    Edge.refused("nothing at hour 0", x, 14, () -> x.see(0, -1, 0));
    Edge.refused("both are wrong: counted once", x, 14, () -> x.see(0, 2, 0));
    for (int n : WILD) {
      Edge.refused("tune " + n, x, 14, () -> x.see(0, n, 1));
      Edge.refused("hours " + n, x, 14, () -> x.see(0, 0, n));
    }
    HummedTunes noTunes = Check.told("person 1 0 0 0;");
    Edge.refused("without tunes", noTunes, 14, () -> noTunes.see(0, 0, 1));
    Edge.due("nothing can be seen", () -> noTunes.see(0, -1, 1), 1);
    HummedTunes full = Check.told(ONE);
    for (int i = 0; i < 8; i++) {
      full.see(0, 0, 1);
    }
    Edge.refused("there are 8", full, 14, () -> full.see(0, 0, 1));
    Edge.refused("there are 8, and no such tune", full, 14, () -> full.see(0, 1, 1));
    Edge.by("Promise 27", "NoSuchElementException (ahead): no such PERSON.");
    int[] people = {-1, 1, 8, Integer.MIN_VALUE, Integer.MAX_VALUE};
    for (int person : people) {
      Edge.throwsOnly("see(" + person + ", 0, 1)", x, "NoSuchElementException", () -> x.see(person, 0, 1));
      Edge.throwsOnly("ahead of what is wrong besides", x, "NoSuchElementException", () -> x.see(person, 9, 0));
      Edge.throwsOnly("ahead of there being 8", full, "NoSuchElementException", () -> full.see(person, 0, 1));
    }
  }

  private static void deep(HummedTunes x, int many, int first, int without) {
    Edge.due("deep(0)", () -> x.deep(0), many);
    Edge.due("deep(1)", () -> x.deep(1), first);
    Edge.due("deep(2)", () -> x.deep(2), without);
  }

  private static void look(HummedTunes x, int who, int many) {
    Edge.due("look(0)", () -> x.look(0), who);
    Edge.due("look(1)", () -> x.look(1), many);
  }

  private static void deepEdges() {
    Edge.by("4", "DEEP: PEOPLE and BREATHS (1 to 20, another one than one has) by one of which from now on all SEEN would be so");
    deep(Check.told("person 1 0 0 0;"), 19, 2, 1);
    deep(Check.told("person 2 0 0 0;"), 19, 1, 1);
    deep(Check.told("person 20 0 0 0;"), 19, 1, 1);
    deep(Check.told(Edge.times(8, "person 1 0 0 0;")), 152, 2, 1);
    deep(Check.told("tune 1;"), 0, -1, 1);
    HummedTunes x = Check.told("person 10 9 0 0;tune 1 of 0;");
    Edge.due("see", () -> x.see(0, 0, 10), 1);
    deep(x, 10, 11, 1);
    Edge.due("see", () -> x.see(0, -1, 11), 2);
    deep(x, 0, -1, 1);
    x.forget();
    x.see(0, 0, 11);
    // By 1 one stops in the second hour, and has rested in nine until the eleventh.
    deep(x, 11, 1, 0);
    x.see(0, -1, 11);
    deep(x, 0, -1, 0);
    x.forget();
    x.hours(10);
    x.see(0, 0, 1);
    // Ten hours are hummed: by 11 and more one hums on.
    deep(x, 10, 11, 0);
    x.forget();
    x.see(0, -1, 1);
    deep(x, 9, 1, 1);
    Edge.by("Promise 28", "DEEP: how many (what 0), the first (1; NONE: none), whether without (2).");
    HummedTunes last = Check.told("person 10 9 0 0;tune 1 of 0;");
    last.see(0, 0, 20);
    // By b one hums in the first b hours, and again from the hour b + 10 on: by 10 in the 20th.
    Edge.due("at the end of 20", () -> last.deep(2), 1);
    last.see(0, 0, 19);
    last.see(0, 0, 18);
    last.see(0, 0, 17);
    last.see(0, 0, 15);
    last.see(0, 0, 10);
    Edge.due("only 20 hums through", () -> last.deep(1), 20);
    Edge.due("only that one", () -> last.deep(0), 1);
    Edge.by("Promise 28", "NoSuchElementException: another what.");
    int[] wrong = {-1, 3, 4, Integer.MIN_VALUE, Integer.MAX_VALUE};
    for (int what : wrong) {
      Edge.throwsOnly("deep(" + what + ")", x, "NoSuchElementException", () -> x.deep(what));
    }
  }

  private static void onlyTheLast() {
    Edge.by("4", "the first (100 by who, and BREATH); whether it is so without (1).");
    // With a breath of 20 the last one hums, is silent, hums, hums, and is silent, as with no other one.
    HummedTunes x = Check.told(Edge.times(7, "person 5 0 0 0;") + "person 5 0 30 0;tune 1 of 7;stops (breath=20)*((hour=1)+(hour=4));");
    x.see(7, -1, 2);
    x.see(7, 0, 3);
    x.see(7, 0, 4);
    x.see(7, -1, 5);
    deep(x, 1, 720, 0);
    Edge.by("4", "LOOK NEXT: who hums most unlike TUNES (nothing is one, too) behind 5 HOURS by these (of like ones the least): how many");
    look(x, 0, 1);
    Edge.due("the breath stays", () -> x.person(7, 0), 5);
  }

  private static void lookEdges() {
    Edge.by("4", "who hums most unlike TUNES (nothing is one, too) behind 5 HOURS");
    // The last one joins the tune whose AIR is one's BREATH; by 2, 4 and more one hums it behind 5 hours.
    StringBuilder text = new StringBuilder("person 20 0 0 0;");
    int[] airs = {2, 4, 5, 6, 7, 8};
    for (int i = 1; i <= 6; i++) {
      text.append("person 20 0 0 0;");
    }
    for (int i = 0; i < 6; i++) {
      text.append("tune ").append(airs[i]).append(" of ").append(i + 1).append(';');
    }
    HummedTunes x = Check.told(text + "joins air=breath;");
    look(x, 0, 7);
    HummedTunes last = Check.told("person 20 0 0 0;person 20 0 30 0;tune 1 of 1;");
    look(last, 1, 2);
    HummedTunes like = Check.told("person 20 0 0 0;person 20 0 30 0;tune 1 of 0;tune 2 of 1;");
    look(like, 0, 2);
    HummedTunes still = Check.told(Edge.times(8, "person 20 0 0 0;"));
    look(still, 0, 1);
    // Behind 5 hours, not 4 or 6: by 4 one is silent then, by 5 and more one hums.
    HummedTunes five = Check.told("person 9 9 0 0;tune 1 of 0;");
    five.see(0, 0, 4);
    look(five, 0, 2);
    five.see(0, 0, 5);
    look(five, 0, 1);
    HummedTunes least = Check.told("person 9 9 0 0;tune 1 of 0;");
    least.see(0, -1, 2);
    look(least, 0, 1);
    // A breath of 0, which nobody has, would let the first one join in the second and the fifth hour.
    look(Check.told("person 20 2 0 0;person 20 0 0 0;tune 1 of 1;joins breath=0;"), 1, 2);
    look(Check.told("person 20 2 0 0;person 20 0 0 0;tune 1 of 1;joins breath=21;"), 1, 2);
    Edge.by("4", "how many; none without any.");
    five.see(0, -1, 5);
    look(five, -1, 0);
    look(new HummedTunes(), -1, 0);
    look(Check.told("tune 1;"), -1, 0);
    Edge.by("Promise 29", "LOOK NEXT: who (what 0; NONE), how many (1; 0: none).");
    HummedTunes one = Check.told(ONE);
    look(one, 0, 2);
    one.see(0, 0, 1);
    one.see(0, -1, 1);
    look(one, -1, 0);
    Edge.by("Promise 29", "NoSuchElementException: another what.");
    int[] wrong = {-1, 2, 3, Integer.MIN_VALUE, Integer.MAX_VALUE};
    for (int what : wrong) {
      Edge.throwsOnly("look(" + what + ")", one, "NoSuchElementException", () -> one.look(what));
    }
  }

  private static void forgetting() {
    Edge.by("Promise 30", "All that is SEEN is forgotten.");
    HummedTunes x = Check.told(ONE);
    String before = Edge.state(x);
    x.forget();
    Edge.due("of nothing", () -> Edge.state(x), before);
    for (int i = 0; i < 8; i++) {
      x.see(0, -1, 1);
    }
    x.see(0, -1, 1);
    Edge.due("eight", () -> x.count(10), 8);
    Edge.due("nothing is so", () -> x.deep(0), 0);
    x.forget();
    Edge.due("none", () -> x.count(10), 0);
    Edge.due("nothing else changes", () -> Edge.state(x), before);
    Edge.due("STATUS 2 stays", () -> x.count(14), 1);
    Edge.due("there is room again", () -> x.see(0, 0, 1), 1);
  }

  // ---- 31

  private static int power(int n, int times) {
    int p = 1;
    for (int i = 0; i < times; i++) {
      p *= n;
    }
    return p;
  }

  private static void thunderEdges() {
    Edge.by("4", "THUNDER: in each of so many HOURS (1 to 5) there is a CLAP with so many tenths (0 to 10)");
    HummedTunes both = Check.told(TWO);
    both.hours(1);
    HummedTunes other = Check.told("person 1 9 0 0;person 20 9 1 0;tune 1 of 0;joins 1;");
    other.hours(2);
    HummedTunes alone = Check.told(ONE);
    for (int h = 1; h <= 5; h++) {
      for (int t = 0; t <= 10; t++) {
        int hours = h;
        int tenths = t;
        String what = h + " hours, " + t + " tenths";
        // By any clap both stop together, and nobody has it any more.
        Edge.due("both hum: " + what, () -> both.thunder(0, 0, hours, tenths), power(10 - t, h));
        Edge.due("the other one never: " + what, () -> both.thunder(1, 0, hours, tenths), 0);
        // By any clap the one who hums is the last, and rests then.
        Edge.due("the owner: " + what, () -> other.thunder(0, 0, hours, tenths), power(10 - t, h));
        Edge.due("who hums: " + what, () -> other.thunder(1, 0, hours, tenths), power(10, h) - power(10 - t, h));
        Edge.due("alone: " + what, () -> alone.thunder(0, 0, hours, tenths), power(10, h));
      }
    }
    Edge.by("4", "ahead of the HOUR all who hum stop at once (as by a COUGH for each TUNE)");
    HummedTunes each = Check.told("person 20 9 0 0;person 20 9 30 0;tune 1 of 0;tune 2 of 1;");
    each.hours(1);
    Edge.due("one of each tune: one's own", () -> each.thunder(0, 0, 5, 10), 100000);
    Edge.due("and the other one's own", () -> each.thunder(1, 1, 5, 10), 100000);
    HummedTunes full = Check.told(Edge.times(8, "person 20 9 0 0;") + "tune 1 of 1;tune 1 of 2;tune 1 of 3;tune 1 of 4;tune 1 of 5;tune 1 of 7;joins far;");
    full.hours(1);
    Edge.due("six tunes, the last one's own", () -> full.thunder(7, 5, 5, 10), 100000);
    Edge.due("six tunes, not the first one's", () -> full.thunder(0, 5, 5, 10), 0);
    HummedTunes begins = Check.told("person 20 0 0 0;person 20 0 1 0;tune 1 of 0;joins 1;");
    Edge.due("nobody hums ahead of the first", () -> begins.thunder(0, 0, 1, 10), 10);
    Edge.due("but ahead of the second", () -> begins.thunder(0, 0, 2, 10), 0);
    Edge.due("ahead of the second with a tenth", () -> begins.thunder(0, 0, 2, 1), 90);
    Edge.by("Promise 31", "THUNDER.");
    Edge.due("nothing has gone by", () -> both.count(4), 3);
    Edge.due("the hour", () -> both.count(2), 1);
    Edge.by("Promise 31", "IllegalArgumentException (behind NoSuchElementException): hours, tenths.");
    int[] hours = {0, 6, -1, 60, Integer.MIN_VALUE, Integer.MAX_VALUE};
    for (int h : hours) {
      Edge.unfit("hours " + h, () -> both.thunder(0, 0, h, 5));
      Edge.missing("hours " + h + " of no such one", () -> both.thunder(2, 0, h, 5));
    }
    int[] tenths = {-1, 11, 100, Integer.MIN_VALUE, Integer.MAX_VALUE};
    for (int t : tenths) {
      Edge.unfit("tenths " + t, () -> both.thunder(0, 0, 1, t));
      Edge.missing("tenths " + t + " of no such tune", () -> both.thunder(0, 1, 1, t));
    }
    int[] wrong = {-1, 2, 8, Integer.MIN_VALUE, Integer.MAX_VALUE};
    for (int n : wrong) {
      Edge.missing("person " + n, () -> both.thunder(n, 0, 1, 1));
      Edge.missing("tune " + n, () -> both.thunder(0, n, 1, 1));
    }
  }

  // ---- 32

  private static void game(HummedTunes x, int person, int other, int many, int first) {
    Edge.due("game(" + person + ", " + other + ", 0)", () -> x.game(person, other, 0), many);
    Edge.due("game(" + person + ", " + other + ", 1)", () -> x.game(person, other, 1), first);
  }

  private static void gameEdges() {
    Edge.by("4", "(who doesn't hum has 0 alone)");
    HummedTunes x = Check.told(TWO + "tune 4;");
    game(x, 0, 1, 1, 0);
    HummedTunes one = Check.told("person 20 0 0 0;person 20 0 30 0;tune 1 of 0;");
    one.hours(1);
    game(one, 0, 1, 2, 0);
    game(one, 1, 0, 2, 0);
    HummedTunes apart = Check.told("person 20 0 0 0;person 20 0 30 0;tune 1 of 0;tune 2 of 1;");
    apart.hours(1);
    game(apart, 0, 1, 4, 0);
    Edge.by("4", "each gains 4 for each TUNE that one OWNS behind 8 HOURS, and loses 1 for each that the other one does.");
    // One hummed alone what is the other one's: by hushing one owns it at once, else not behind 8 hours.
    HummedTunes take = Check.told("person 1 9 0 0;person 20 9 1 0;tune 1 of 0;joins 1;");
    take.hours(2);
    game(take, 0, 1, 1, 1);
    game(take, 1, 0, 1, 10);
    // Without it one would own it in the ninth hour; with a breath less in the eighth, and both are alike.
    HummedTunes ninth = Check.told("person 1 9 0 0;person 10 9 1 0;tune 1 of 0;joins 1;");
    ninth.hours(2);
    game(ninth, 0, 1, 1, 1);
    HummedTunes eighth = Check.told("person 1 9 0 0;person 9 9 1 0;tune 1 of 0;joins 1;");
    eighth.hours(2);
    game(eighth, 0, 1, 2, 0);
    // One owns 1 and the other one 3 if one is hushed, else both none: 1 is more than 0.
    HummedTunes more = Check.told("person 7 1 0 0;person 7 0 3 0;person 1 0 3 0;person 1 0 0 0;person 7 2 1 0;"
        + "tune 8 of 1;tune 8 of 2;tune 5 of 2;tune 5 of 2;tune 6 of 4;tune 1 of 0;joins 1;stops hummed-air;");
    more.hours(7);
    game(more, 1, 2, 2, 10);
    game(more, 2, 1, 2, 1);
    // One owns 1 and the other one 5 if one is not hushed, else 0 and 1: both are -1.
    HummedTunes alike = Check.told("person 7 3 0 0;person 1 1 0 0;person 1 0 0 0;person 7 0 0 0;"
        + "tune 5 of 1;tune 6 of 1;tune 1 of 1;tune 5 of 1;tune 5 of 1;tune 7 of 1;joins 1;stops not with;");
    alike.hours(2);
    game(alike, 0, 1, 2, 0);
    game(alike, 1, 0, 2, 0);
    Edge.by("4", "A couple RESTS, if neither gains more by the other choice: how many; the first (10 by the first one's, and the other one's)");
    HummedTunes never = Check.told("person 3 0 2 0;person 5 2 3 0;tune 0 of 1;joins 1;");
    never.hours(4);
    game(never, 0, 1, 0, -1);
    HummedTunes eleven = Check.told("person 3 1 6 0;person 4 2 4 0;tune 3 of 0;joins 1;");
    eleven.hours(2);
    game(eleven, 0, 1, 1, 11);
    Edge.by("Promise 32", "A GAME: how many couples rest (what 0), the first (1; NONE: none).");
    Edge.due("nothing has gone by", () -> eleven.count(2), 2);
    Edge.due("nobody is hushed", () -> eleven.count(4), 3);
    Edge.by("Promise 32", "NoSuchElementException: also another what.");
    int[] whats = {-1, 2, 3, Integer.MIN_VALUE, Integer.MAX_VALUE};
    for (int what : whats) {
      Edge.missing("what " + what, () -> x.game(0, 1, what));
      Edge.missing("what " + what + ", both are one", () -> x.game(0, 0, what));
    }
    int[] people = {-1, 2, 8, Integer.MIN_VALUE, Integer.MAX_VALUE};
    for (int person : people) {
      Edge.missing("person " + person, () -> x.game(person, 0, 0));
      Edge.missing("other " + person, () -> x.game(0, person, 0));
      Edge.missing("both are one who is not there", () -> x.game(person, person, 0));
    }
    Edge.by("Promise 32", "IllegalArgumentException (behind that): both are one.");
    Edge.unfit("the first", () -> x.game(0, 0, 0));
    Edge.unfit("the last", () -> x.game(1, 1, 1));
  }

  private static final String[] GAMES = {
      "person 3 0 2 0;person 5 2 3 0;tune 0 of 1;tune 1 of 0;joins 1;",
      "person 2 0 0 0;person 2 1 1 0;person 3 0 2 0;tune 3 of 0;tune 4 of 2;joins 1;",
      "person 4 1 0 0;person 3 0 1 0;whistler 2 2 7 0;tune 3 of 1;tune 4 of 2;tune 5 of 0;joins 5-far;stops with=2;",
      "person 6 3 0 0;person 5 0 1 0;person 7 1 2 0;tune 1 of 2;joins hour<9;stops with-hummed;"};

  /** What each gains, by doing it: the lesser one is HUSHED first, then 8 HOURS go by. */
  private static int[] gains(String text, int hours, int[] two, int couple) {
    HummedTunes x = Check.told(text);
    x.hours(hours);
    boolean first = couple / 2 == 1;
    boolean second = couple % 2 == 1;
    int lesser = Math.min(two[0], two[1]);
    if (lesser == two[0] ? first : second) {
      x.hush(lesser);
    }
    if (lesser == two[0] ? second : first) {
      x.hush(Math.max(two[0], two[1]));
    }
    x.hours(8);
    int mine = Integer.bitCount(x.person(two[0], 6));
    int theirs = Integer.bitCount(x.person(two[1], 6));
    return new int[] {4 * mine - theirs, 4 * theirs - mine};
  }

  private static void gamesByActs() {
    Edge.by("4", "A GAME of two: each is HUSHED now, if one hums, or not (1, 0; the lesser first)");
    for (String text : GAMES) {
      for (int hours = 1; hours <= 12; hours++) {
        HummedTunes x = Check.told(text);
        x.hours(hours);
        for (int p = 0; p < x.count(0); p++) {
          for (int q = 0; q < x.count(0); q++) {
            if (p != q) {
              gameByActs(x, text, hours, new int[] {p, q});
            }
          }
        }
      }
    }
  }

  private static void gameByActs(HummedTunes x, String text, int hours, int[] two) {
    int last = x.person(two[0], 4) == -1 ? 0 : 1;
    int otherLast = x.person(two[1], 4) == -1 ? 0 : 1;
    int many = 0;
    int first = -1;
    for (int couple = 0; couple < 4; couple++) {
      if (couple / 2 > last || couple % 2 > otherLast) {
        continue;
      }
      int[] here = gains(text, hours, two, couple);
      boolean rests = last == 0 || gains(text, hours, two, couple ^ 2)[0] <= here[0];
      boolean otherRests = otherLast == 0 || gains(text, hours, two, couple ^ 1)[1] <= here[1];
      if (rests && otherRests) {
        many++;
        first = first == -1 ? couple / 2 * 10 + couple % 2 : first;
      }
    }
    game(x, two[0], two[1], many, first);
  }

  // ---- 33

  private static void yearsEdges() {
    Edge.by("4", "YEARS by a seed: n HOURS (0 to 60) from now on");
    HummedTunes x = Check.told(TWO + "tune 4;");
    x.hours(1);
    int[] seeds = {0, 1, -1, Integer.MIN_VALUE, Integer.MAX_VALUE, 0x7fff0000, 0x80000000, 0xffff};
    for (int seed : seeds) {
      Edge.due("no hours: taken", () -> x.years(seed, 0, 0), 0);
      Edge.due("no hours: nobody's", () -> x.years(seed, 0, 1), 1);
      Edge.due("no hours: two hum", () -> x.years(seed, 0, 2), 2);
    }
    Edge.by("4", "(Without TUNES nothing is drawn behind 0, without PEOPLE nothing behind 1, 2.)");
    HummedTunes noTunes = Check.told("person 1 0 0 0;person 1 0 0 0;");
    HummedTunes nobody = Check.told("tune 1;tune 2;tune 3;");
    HummedTunes nothing = new HummedTunes();
    for (int seed = -40; seed < 40; seed++) {
      int s = seed * 104729;
      int[] wants = {0, 3, 0};
      for (int what = 0; what < 3; what++) {
        int w = what;
        Edge.due("without tunes", () -> noTunes.years(s, 60, w), 0);
        Edge.due("without people", () -> nobody.years(s, 60, w), wants[w]);
        Edge.due("without any", () -> nothing.years(s, 60, w), 0);
      }
    }
    Edge.by("Promise 33", "YEARS: how often (what 0), TUNES (1), how many hum (2).");
    Edge.due("nothing has gone by", () -> x.count(2), 1);
    Edge.due("nobody is hushed", () -> x.count(4), 3);
    Edge.by("Promise 33", "NoSuchElementException: another what.");
    int[] whats = {-1, 3, 4, Integer.MIN_VALUE, Integer.MAX_VALUE};
    for (int what : whats) {
      Edge.missing("what " + what, () -> x.years(1, 5, what));
      Edge.missing("what " + what + ", ahead of n", () -> x.years(1, 61, what));
    }
    Edge.by("Promise 33", "IllegalArgumentException (behind that): n.");
    int[] wrong = {-1, 61, 256, Integer.MIN_VALUE, Integer.MAX_VALUE};
    for (int n : wrong) {
      Edge.unfit("n " + n, () -> x.years(1, n, 0));
      Edge.unfit("n " + n + " of nobody", () -> nothing.years(1, n, 2));
    }
  }

  private static int seed;

  /** Bits 16 to 30 of the next seed, reckoned in longs. */
  private static int draw(int n) {
    long next = (seed * 1103515245L + 12345L) & 0xffffffffL;
    seed = (int) next;
    return (int) (next / 65536 % 32768 % n);
  }

  private static int changed(HummedTunes x, int[] owners) {
    int many = 0;
    for (int t = 0; t < owners.length; t++) {
      int owner = x.tune(t, 1);
      many += owner == owners[t] ? 0 : 1;
      owners[t] = owner;
    }
    return many;
  }

  private static void yearsByActs() {
    Edge.by("4", "A seed becomes itself times 1103515245 and 12345 (an int that wraps); a DRAW of n is its bits 16 to 30 MOD n then.");
    int[] all = {1, 2, 7, 59, 60};
    yearsOf("earshot 12;person 3 0 0 0;person 7 1 9 0;whistler 2 0 20 0;tune 1 of 0;tune 2 of 1;joins 9-far;stops with=2;", all);
    yearsOf("person 3 0 0 0;tune 1 of 0;", all);
    yearsOf("person 3 1 0 0;person 4 0 2 0;tune 1 of 0;joins 1;", all);
    int[] few = {1, 9, 30};
    yearsOf("earshot 4;" + Edge.times(4, "person 3 0 7 0;person 2 1 9 0;")
        + "tune 1 of 0;tune 2 of 2;tune 3 of 7;tune 4 of 5;tune 5 of 6;tune 6 of 1;joins 9-far-with;", few);
  }

  private static void yearsOf(String text, int[] hours) {
    int[] seeds = {0, 1, 2, 3, -1, -7, 65536, 12345, Integer.MIN_VALUE, Integer.MAX_VALUE, 0x12345678, 0xcafebabe};
    for (int from : seeds) {
      for (int n : hours) {
        int[] want = yearsDone(text, from, n);
        HummedTunes y = Check.told(text);
        for (int what = 0; what < 3; what++) {
          int w = what;
          Edge.due("years(" + from + ", " + n + ", " + w + ") of " + text, () -> y.years(from, n, w), want[w]);
        }
      }
    }
  }

  private static int[] yearsDone(String text, int from, int n) {
    HummedTunes x = Check.told(text);
    int people = x.count(0);
    int[] owners = new int[x.count(1)];
    changed(x, owners);
    int often = 0;
    seed = from;
    for (int i = 0; i < n; i++) {
      int kind = draw(7);
      if (kind == 0) {
        x.cough(draw(owners.length));
      } else if (kind == 1) {
        x.hush(draw(people));
      } else if (kind == 2) {
        int person = draw(people);
        x.go(person, draw(31));
      }
      often += changed(x, owners);
      x.hours(1);
      often += changed(x, owners);
    }
    return new int[] {often, Integer.bitCount(x.count(5)), Integer.bitCount(x.count(4))};
  }

  // ---- 34, 35

  private static void statusEdges() {
    Edge.by("4", "STATUS: how many calls were refused: 0 TEXTS with a FAULT, 1 ACTS, 2 what is SEEN.");
    HummedTunes x = Check.told(ONE);
    for (int i = 1; i <= 60; i++) {
      int many = i;
      Check.tell(x, "x");
      x.hours(0);
      x.see(0, 0, 0);
      Edge.due("texts", () -> x.count(12), many);
      Edge.due("acts", () -> x.count(13), many);
      Edge.due("sights", () -> x.count(14), many);
    }
    Check.outcome(() -> x.hills(1));
    Check.outcome(() -> x.hush(5));
    Check.outcome(() -> x.see(5, 0, 1));
    x.undo();
    x.restore();
    x.feed(0, 0, 0, 0, 0);
    Edge.due("no exception is counted, nor undo or restore of none", () -> x.count(12) + x.count(13) + x.count(14), 180);
  }

  private static void imageEdges() {
    Edge.by("4", "AN IMAGE keeps all that HOURS and ACTS change, ACTS that are kept, what is SEEN, STATUS.");
    HummedTunes x = Check.told(TWO + "tune 4;");
    for (int i = 1; i <= 45; i++) {
      x.go(1, i % 31);
    }
    x.hours(2);
    for (int i = 0; i < 9; i++) {
      x.see(0, 0, 1 + i);
    }
    Check.tell(x, "x");
    String before = Edge.state(x);
    int[] status = {x.count(12), x.count(13), x.count(14)};
    x.image();
    x.hours(20);
    x.cough(0);
    x.go(0, 30);
    x.sell(0, 1);
    x.forget();
    x.see(1, -1, 1);
    x.hours(0);
    Check.tell(x, "x");
    Edge.by("Promise 35", "It is as the IMAGE again: true.");
    for (int i = 0; i < 2; i++) {
      Edge.due("restored", x::restore, true);
      Edge.due("as it was", () -> Edge.state(x), before);
      for (int s = 0; s < 3; s++) {
        int which = s;
        Edge.due("STATUS " + s, () -> x.count(12 + which), status[which]);
      }
      for (int left = 39; left >= 0; left--) {
        int l = left;
        Edge.due("undo", x::undo, l);
        // Behind the 6 of 46 acts that are not kept and those that are left.
        Edge.due("where one stood", () -> x.person(1, 2), (6 + l) % 31);
      }
      Edge.due("none is left", x::undo, -1);
      x.forget();
    }
    Edge.by("Promise 34", "AN IMAGE is kept, in place of another one.");
    x.hours(3);
    int hour = x.count(2);
    x.image();
    x.hours(5);
    Edge.due("the latest", x::restore, true);
    Edge.due("the hour", () -> x.count(2), hour);
    Edge.due("nothing seen", () -> x.count(10), 0);
  }

  private static void restoreEdges() {
    Edge.by("Promise 35", "False: there is none.");
    HummedTunes x = new HummedTunes();
    Edge.due("a new object", x::restore, false);
    x.image();
    x.hours(1);
    Edge.due("an image of nobody", x::restore, true);
    Edge.due("the hour", () -> x.count(2), 0);
    Check.tell(x, ONE);
    String before = Edge.state(x);
    Edge.due("gone with other hills", x::restore, false);
    Edge.due("nothing changes", () -> Edge.state(x), before);
    x.image();
    x.hours(4);
    Check.feed(x, "tune 10;");
    Edge.unfit("hills(21)", () -> x.hills(21));
    Edge.due("not gone with that", x::restore, true);
    Edge.due("the tape is no part of it", () -> x.count(11), 20);
    x.hours(4);
    Edge.due("a fault", () -> x.hills(8), 2);
    Edge.due("not gone with a fault", x::restore, true);
    Edge.due("the fault's place is no part of it", x::fault, 5);
    Edge.due("STATUS is", () -> x.count(12), 0);
    Edge.due("hills of nothing", () -> x.hills(0), 0);
    Edge.due("gone", x::restore, false);
  }
}
