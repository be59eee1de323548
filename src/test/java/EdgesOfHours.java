/** ==== 2. and promises 5 to 13: what is, an HOUR, ACTS, and how they are undone. */
final class EdgesOfHours {
  private static final int[] WILD = {-1, -2, Integer.MIN_VALUE, Integer.MAX_VALUE, 1 << 16, 1 << 30};
  /** Two who hum one TUNE from the first HOUR on. */
  private static final String BOTH = "person 9 0 0 1;person 9 0 1 1;tune 1 of 0;tune 2;joins 1;";

  private EdgesOfHours() {
  }

  static void all() {
    oneTune();
    hearing();
    resting();
    restedWhile();
    outOfBreath();
    stoppingByRule();
    whoWasLast();
    beginning();
    joining();
    hourByHour();
    longSilence();
    counts();
    people();
    tunes();
    hours();
    hushing();
    coughing();
    selling();
    going();
    keptActs();
    undoing();
  }

  // ---- ==== 2.

  private static void oneTune() {
    Edge.by("2", "One hums one TUNE at most.");
    HummedTunes x = Check.told("person 9 0 0 0;person 9 0 1 0;tune 1 of 0;tune 2 of 0;tune 3 of 1;joins 1;");
    for (int h = 1; h <= 9; h++) {
      int hours = h;
      Edge.due("one hums the first of two", () -> x.then(0, hours, 0), 0);
      Edge.due("the other one hums one's own", () -> x.then(1, hours, 0), 2);
    }
    Edge.due("nobody hums the second", () -> x.silent(1, 9), 9);
  }

  private static void hearing() {
    Edge.by("2", "One HEARS another one who is no farther than EARSHOT (a whistler: EARSHOT twice), by PLACES.");
    HummedTunes x = Check.told("earshot 3;person 1 0 3 0;person 1 0 0 0;person 1 0 6 0;whistler 1 0 7 0;");
    Edge.due("just EARSHOT on both sides, not oneself", () -> x.person(0, 8), 6);
    Edge.due("at the edge", () -> x.person(1, 8), 1);
    Edge.due("one and three, not six", () -> x.person(2, 8), 9);
    Edge.due("EARSHOT twice is six, not seven", () -> x.person(3, 8), 5);
    x.go(3, 6);
    Edge.due("just EARSHOT twice, by where one stands now", () -> x.person(3, 8), 7);
    HummedTunes none = Check.told("earshot 0;person 1 0 3 0;person 1 0 3 0;person 1 0 4 0;");
    Edge.due("EARSHOT 0: at one PLACE", () -> none.person(0, 8), 2);
    Edge.due("EARSHOT 0: nobody", () -> none.person(2, 8), 0);
    Edge.due("alone", () -> Check.told("whistler 1 0 3 0;").person(0, 8), 0);
  }

  private static void resting() {
    Edge.by("2", "the HOURS in which one hasn't hummed since one stopped last are as many as REST, or more");
    for (int rest = 0; rest <= 9; rest++) {
      // One hums in the first hour and stops in the second, which is the first in which one hasn't hummed.
      int again = Math.max(3, rest + 2);
      String text = "person 1 " + rest + " 0 0;tune 1 of 0;";
      HummedTunes x = Check.told(text);
      for (int h = 2; h < again; h++) {
        int hours = h;
        Edge.due(text + " silent behind " + h, () -> x.then(0, hours, 0), -1);
      }
      Edge.due(text + " hums behind " + again, () -> x.then(0, again, 0), 0);
      x.hours(2);
      for (int silent = 1; silent <= again - 2; silent++) {
        int rested = silent >= rest ? 1 : 0;
        Edge.due(text + " rested behind " + silent + " silent ones", () -> x.person(0, 7), rested);
        x.hours(1);
      }
    }
  }

  private static void restedWhile() {
    Edge.by("2", "(who never stopped is; who hums again is as one was when one began)");
    HummedTunes x = Check.told("person 2 9 0 0;tune 1 of 0;");
    Edge.due("never stopped", () -> x.person(0, 7), 1);
    x.hours(2);
    Edge.due("hums for the first time", () -> x.person(0, 7), 1);
    x.hours(1);
    Edge.due("stopped", () -> x.person(0, 7), 0);
    x.hours(7);
    Edge.due("eight of nine", () -> x.person(0, 7), 0);
    x.hours(1);
    Edge.due("nine", () -> x.person(0, 7), 1);
    x.hours(1);
    Edge.due("hums again", () -> x.person(0, 4), 0);
    Edge.due("rested as when one began", () -> x.person(0, 7), 1);
    x.hush(0);
    Edge.due("not by what was ahead", () -> x.person(0, 7), 0);
  }

  private static void outOfBreath() {
    Edge.by("2", "one who has hummed as many HOURS as BREATH stops");
    for (int breath = 1; breath <= 20; breath++) {
      int last = breath;
      String[] rules = {"", "stops 0;", "stops 0-1;"};
      for (String rule : rules) {
        HummedTunes x = Check.told("person " + breath + " 9 0 0;tune 1 of 0;" + rule);
        Edge.due("hums the last hour of " + last, () -> x.then(0, last, 1), last);
        Edge.due("stops then", () -> x.then(0, last + 1, 0), -1);
        Edge.due("for no hour", () -> x.then(0, last + 1, 1), 0);
      }
    }
  }

  private static void stoppingByRule() {
    Edge.by("2", "else, if STOPS gives more than 0 (without it never)");
    String[] exprs = {"1", "9999", "0", "0-1", "0-9999", "4096*4096*128", "4096*4096*128-1", "hour-1", "hour-hummed", "1-with"};
    boolean[] stop = {true, true, false, false, false, false, true, false, false, true};
    for (int i = 0; i < exprs.length; i++) {
      HummedTunes x = Check.told("person 20 0 0 0;tune 1 of 0;stops " + exprs[i] + ";");
      Edge.due(exprs[i], () -> x.then(0, 2, 0), stop[i] ? -1 : 0);
    }
    HummedTunes without = Check.told("person 20 0 0 0;tune 1 of 0;");
    Edge.due("without it", () -> without.then(0, 20, 1), 20);
    Edge.by("2", "all who stop do so at once, when all were asked.");
    HummedTunes x = Check.told("person 9 0 0 0;person 9 0 1 0;tune 1 of 0;joins 1;stops with=1;");
    Edge.due("each was asked while the other one hummed", () -> x.whose(0, 2, 1), 0);
    Edge.due("nobody's", () -> x.whose(0, 2, 0), -1);
    HummedTunes y = Check.told("person 9 0 0 0;person 9 0 1 0;tune 1 of 0;joins 1;stops with=0;");
    Edge.due("nobody was alone", () -> y.whose(0, 9, 1), 3);
  }

  private static void whoWasLast() {
    Edge.by("2", "if one stopped, that one OWNS it; if several did, nobody does.");
    String joins = "joins 1;";
    HummedTunes one = Check.told("person 3 9 0 0;person 5 9 1 0;tune 1 of 0;" + joins);
    Edge.due("one of two stops: as it was", () -> one.whose(0, 4, 0), 0);
    Edge.due("the other one hums", () -> one.whose(0, 4, 1), 2);
    Edge.due("the last one of two", () -> one.whose(0, 6, 0), 1);
    HummedTunes two = Check.told("person 3 9 0 0;person 5 9 1 0;person 5 9 2 0;tune 1 of 0;" + joins);
    Edge.due("the last two of three hum", () -> two.whose(0, 5, 1), 6);
    Edge.due("still the first one's", () -> two.whose(0, 5, 0), 0);
    Edge.due("the last two stop together", () -> two.whose(0, 6, 0), -1);
    HummedTunes eight = Check.told(Edge.times(8, "person 2 0 0 0;") + "tune 1 of 5;" + "joins 1;");
    // The sixth one begins; two behind join at once, the five ahead an hour on.
    Edge.due("who begins", () -> eight.whose(0, 1, 1), 224);
    Edge.due("all", () -> eight.whose(0, 2, 1), 255);
    Edge.due("three stop, five hum", () -> eight.whose(0, 3, 1), 31);
    Edge.due("the owner stays", () -> eight.whose(0, 3, 0), 5);
    Edge.due("five at once: no last one", () -> eight.whose(0, 4, 0), -1);
    HummedTunes alone = Check.told("person 2 0 0 0;tune 1;tune 2 of 0;");
    Edge.due("one's own again", () -> alone.whose(1, 3, 0), 0);
    Edge.due("a tune that nobody hummed stays nobody's", () -> alone.whose(0, 60, 0), -1);
    HummedTunes apart = Check.told("person 2 0 0 0;person 2 0 30 0;tune 1 of 0;tune 2 of 1;");
    Edge.due("two stop, one of each tune: the first", () -> apart.whose(0, 3, 0), 0);
    Edge.due("two stop, one of each tune: the second", () -> apart.whose(1, 3, 0), 1);
  }

  private static void beginning() {
    Edge.by("2", "hasn't stopped in this HOUR, and is RESTED: if one OWNS a TUNE that nobody hums (the least), one begins it");
    HummedTunes x = Check.told("person 1 0 0 0;tune 1;tune 2 of 0;tune 3 of 0;");
    Edge.due("the least that one owns", () -> x.then(0, 1, 0), 1);
    Edge.due("not in the hour in which one stopped", () -> x.then(0, 2, 0), -1);
    Edge.due("in the next one", () -> x.then(0, 3, 0), 1);
    HummedTunes last = Check.told("person 1 0 0 0;" + Edge.times(5, "tune 1;") + "tune 2 of 0;");
    Edge.due("the last of six", () -> last.then(0, 1, 0), 5);
    HummedTunes y = Check.told("person 1 0 0 0;person 20 0 1 0;tune 1 of 0;tune 2 of 0;joins air=1;");
    Edge.due("both hum the first", () -> y.whose(0, 1, 1), 3);
    Edge.due("the least that nobody hums", () -> y.then(0, 3, 0), 1);
    HummedTunes none = Check.told("person 1 0 0 0;tune 1;");
    Edge.due("who owns none begins none", () -> none.then(0, 60, 0), -1);
    HummedTunes own = Check.told("person 1 0 0 0;person 20 0 1 0;tune 1 of 0;joins 1;");
    Edge.due("one's own that another one hums is joined", () -> own.whose(0, 3, 1), 3);
  }

  private static void joining() {
    Edge.by("2", "of TUNES that somebody hums whom one HEARS (one who began or joined it ahead of one in this step of the HOUR counts, too)");
    String along = "person 9 0 0 0;person 9 0 5 0;person 9 0 10 0;person 9 0 16 0;tune 1 of 0;joins 1;";
    Edge.due("one behind the other in one hour, but one who is six off", () -> Check.told(along).whose(0, 1, 1), 7);
    Edge.due("nor later", () -> Check.told(along).whose(0, 9, 1), 7);
    String back = "person 9 0 10 0;person 9 0 5 0;person 9 0 0 0;tune 1 of 2;joins 1;";
    int[] who = {4, 6, 7};
    for (int h = 1; h <= 3; h++) {
      int hours = h;
      Edge.due("one an hour, from the last one on", () -> Check.told(back).whose(0, hours, 1), who[h - 1]);
    }
    Edge.by("2", "the least for which JOINS gives more than 0 (without it none): one joins it.");
    String two = "person 9 0 0 0;person 9 0 1 0;person 9 0 2 0;tune 3 of 0;tune 4 of 1;";
    String[] rules = {"joins 1;", "joins 9999;", "joins air=4;", "joins 0;", "joins 0-1;", "joins 4096*4096*128;", "", "joins air-3;",
        "joins 4-air;", "stops 0;"};
    int[] joined = {0, 0, 1, -1, -1, -1, -1, 1, 0, -1};
    for (int i = 0; i < rules.length; i++) {
      HummedTunes x = Check.told(two + rules[i]);
      int want = joined[i];
      Edge.due(rules[i], () -> x.then(2, 1, 0), want);
    }
    HummedTunes far = Check.told("earshot 1;person 9 0 0 0;person 9 0 3 0;person 9 0 2 0;tune 3 of 0;tune 4 of 1;joins 1;");
    Edge.due("the least that one hears", () -> far.then(2, 1, 0), 1);
  }

  private static void hourByHour() {
    Edge.by("2", "Then each who hums (one who began now, too) has hummed it an HOUR more");
    HummedTunes x = Check.told(BOTH);
    Edge.due("begins: one hour", () -> x.then(0, 1, 1), 1);
    Edge.due("joins: one hour", () -> x.then(1, 1, 1), 1);
    Edge.due("two hours", () -> x.then(0, 2, 1), 2);
    Edge.due("hums nothing: none", () -> x.then(0, 0, 1), 0);
    Edge.by("2", "The HOUR is one more then.");
    Edge.due("the hour", () -> x.count(2), 0);
    Edge.due("one", () -> x.hours(1), 1);
    Edge.due("and twenty", () -> x.hours(20), 21);
    Edge.due("the hour", () -> x.count(2), 21);
    // STOPS asks in the third hour, while the HOUR is 2.
    HummedTunes y = Check.told("person 9 0 0 0;tune 1 of 0;stops hour=2;");
    Edge.due("hums behind two", () -> y.then(0, 2, 0), 0);
    Edge.due("not behind three", () -> y.then(0, 3, 0), -1);
  }

  private static void longSilence() {
    Edge.by("2", "the others have not hummed for an HOUR more (99 at most).");
    HummedTunes x = Check.told("person 1 9 0 0;person 1 0 30 1;tune 1 of 0;");
    x.hours(2);
    x.sell(0, 1);
    Edge.due("one of nine", () -> x.person(0, 7), 0);
    x.hours(8);
    for (int i = 0; i < 24; i++) {
      Edge.due("rested in the hour " + x.count(2), () -> x.person(0, 7), 1);
      x.hours(20);
    }
    x.cough(0);
    Edge.due("sold back", () -> x.sell(0, 0), 1);
    Edge.due("begins behind 490 hours", () -> x.then(0, 1, 0), 0);
    Edge.due("and stops", () -> x.then(0, 2, 0), -1);
    HummedTunes never = Check.told("person 1 9 0 1;person 1 0 30 0;tune 1 of 1;");
    for (int i = 0; i < 10; i++) {
      never.hours(20);
      Edge.due("never hummed", () -> never.person(0, 7), 1);
    }
  }

  // ---- 5 to 7

  private static void counts() {
    Edge.by("Promise 5", "0 PEOPLE, 1 TUNES, 2 the HOUR, 3 EARSHOT, 4 who hums (bits), 5 TUNES that nobody OWNS (bits)");
    HummedTunes full = Check.told("earshot 0;" + Edge.times(8, "person 20 9 0 9;") + "tune 1 of 0;" + Edge.times(5, "tune 1;") + "joins 1;");
    int[] want = {8, 6, 0, 0, 0, 62, 1, 1, 72, 0, 0, 0, 0, 0, 0};
    for (int what = 0; what < 15; what++) {
      int w = what;
      Edge.due("count(" + w + ")", () -> full.count(w), want[w]);
    }
    full.hours(1);
    Edge.due("all hum", () -> full.count(4), 255);
    full.cough(0);
    Edge.due("nobody hums", () -> full.count(4), 0);
    Edge.due("nobody owns any", () -> full.count(5), 63);
    HummedTunes owned = Check.told("person 1 0 0 0;" + Edge.times(6, "tune 1 of 0;"));
    Edge.due("all are owned", () -> owned.count(5), 0);
    Edge.by("Promise 5", "6 PARTS, 7 ALL HEAR (bits), 8 COWS of all");
    StringBuilder apart = new StringBuilder("earshot 0;");
    for (int i = 0; i < 8; i++) {
      apart.append("person 1 0 ").append(i).append(" 0;");
    }
    HummedTunes eight = Check.told(apart.toString());
    Edge.due("eight parts", () -> eight.count(6), 8);
    Edge.due("all eight", () -> eight.count(7), 255);
    Edge.due("no cows", () -> eight.count(8), 0);
    Edge.by("Promise 5", "9 ACTS that are kept, 10 SEEN, 11 bytes of the tape, 12 to 14 STATUS 0 to 2.");
    for (int i = 0; i < 8; i++) {
      eight.see(0, -1, 1);
    }
    Edge.due("eight seen", () -> eight.count(10), 8);
    Check.feed(eight, " ".repeat(700));
    Edge.due("a full tape", () -> eight.count(11), 700);
    Edge.due("hours are acts", () -> full.count(9), 2);
    Edge.by("Promise 5", "NoSuchElementException: another what.");
    Edge.throwsOnly("count(15)", full, "NoSuchElementException", () -> full.count(15));
    for (int what : WILD) {
      Edge.throwsOnly("count(" + what + ")", full, "NoSuchElementException", () -> full.count(what));
    }
  }

  private static void people() {
    Edge.by("Promise 6", "4 the TUNE one hums (NONE), 5 for how many HOURS, 6 TUNES one OWNS (bits), 7 whether RESTED (1), 8 HEARS (bits), 9 whether a whistler (1).");
    HummedTunes x = Check.told(Edge.times(7, "person 20 9 30 9;") + "whistler 20 0 30 0;" + Edge.times(6, "tune 1 of 7;"));
    int[] first = {20, 9, 30, 9, -1, 0, 0, 1, 254, 0};
    int[] last = {20, 0, 30, 0, -1, 0, 63, 1, 127, 1};
    for (int what = 0; what < 10; what++) {
      int w = what;
      Edge.due("person(0, " + w + ")", () -> x.person(0, w), first[w]);
      Edge.due("person(7, " + w + ")", () -> x.person(7, w), last[w]);
    }
    x.hours(20);
    Edge.due("the first of six", () -> x.person(7, 4), 0);
    Edge.due("for twenty hours", () -> x.person(7, 5), 20);
    x.hours(1);
    Edge.due("nothing", () -> x.person(7, 4), -1);
    Edge.due("for none", () -> x.person(7, 5), 0);
    Edge.by("Promise 6", "NoSuchElementException: no such PERSON (as everywhere), what.");
    HummedTunes y = Check.told(BOTH);
    int[] wrong = {2, 8, -1, Integer.MIN_VALUE, Integer.MAX_VALUE};
    for (int person : wrong) {
      Edge.throwsOnly("person(" + person + ", 0)", y, "NoSuchElementException", () -> y.person(person, 0));
    }
    Edge.throwsOnly("person(0, 10)", y, "NoSuchElementException", () -> y.person(0, 10));
    for (int what : WILD) {
      Edge.throwsOnly("person(0, " + what + ")", y, "NoSuchElementException", () -> y.person(0, what));
    }
  }

  private static void tunes() {
    Edge.by("Promise 7", "0 AIR, 1 the OWNER (NONE), 2 who hums it (bits).");
    HummedTunes x = Check.told(Edge.times(8, "person 20 9 0 9;") + "tune 0;tune 9 of 7;joins 1;");
    int[][] want = {{0, -1, 0}, {9, 7, 128}};
    x.hours(1);
    for (int t = 0; t < 2; t++) {
      for (int what = 0; what < 3; what++) {
        int tune = t;
        int w = what;
        Edge.due("tune(" + tune + ", " + w + ")", () -> x.tune(tune, w), want[tune][w]);
      }
    }
    x.hours(1);
    Edge.due("all hum it", () -> x.tune(1, 2), 255);
    Edge.by("Promise 7", "NoSuchElementException: no such TUNE (as everywhere), what.");
    int[] wrong = {2, 6, -1, Integer.MIN_VALUE, Integer.MAX_VALUE};
    for (int tune : wrong) {
      Edge.throwsOnly("tune(" + tune + ", 0)", x, "NoSuchElementException", () -> x.tune(tune, 0));
    }
    Edge.throwsOnly("tune(0, 3)", x, "NoSuchElementException", () -> x.tune(0, 3));
    for (int what : WILD) {
      Edge.throwsOnly("tune(0, " + what + ")", x, "NoSuchElementException", () -> x.tune(0, what));
    }
  }

  // ---- 8 to 12

  private static void hours() {
    Edge.by("2", "HOURS go by (1 to 20)");
    HummedTunes x = Check.told(BOTH);
    Edge.due("one", () -> x.hours(1), 1);
    Edge.due("twenty", () -> x.hours(20), 21);
    Edge.by("Promise 8", "HOURS go by: the HOUR.");
    for (int many = 1; many <= 20; many++) {
      int m = many;
      HummedTunes each = Check.told(BOTH);
      int due = each.then(0, m, 1);
      Edge.due("hours(" + m + ")", () -> each.hours(m), m);
      Edge.due("as many as were foreseen", () -> each.person(0, 5), due);
    }
    Edge.by("Promise 8", "NONE (STATUS 1): not 1 to 20, it would be above 999.");
    Edge.refused("hours(0)", x, 13, () -> x.hours(0));
    Edge.refused("hours(21)", x, 13, () -> x.hours(21));
    for (int many : WILD) {
      Edge.refused("hours(" + many + ")", x, 13, () -> x.hours(many));
    }
    for (int hour = 41; hour <= 981; hour += 20) {
      int h = hour;
      Edge.due("hours(20)", () -> x.hours(20), h);
    }
    Edge.refused("1001", x, 13, () -> x.hours(20));
    Edge.refused("1000", x, 13, () -> x.hours(19));
    Edge.due("998", () -> x.hours(17), 998);
    Edge.refused("1000", x, 13, () -> x.hours(2));
    Edge.due("999", () -> x.hours(1), 999);
    for (int many = 1; many <= 20; many++) {
      int m = many;
      Edge.refused("above 999", x, 13, () -> x.hours(m));
    }
    Edge.due("what would be is foreseen all the same", () -> x.then(0, 60, 0) >= -1, true);
    Edge.due("undone", x::undo, 39);
    Edge.due("and once more", () -> x.hours(1), 999);
  }

  private static void hushing() {
    Edge.by("2", "one is HUSHED: one stops now (the last one OWNS the TUNE; in the HOUR that comes one hasn't stopped, and begins or joins, if RESTED)");
    HummedTunes x = Check.told(BOTH);
    x.hours(1);
    Edge.due("not the last one", () -> x.hush(0), 0);
    Edge.due("the owner stays", () -> x.tune(0, 1), 0);
    Edge.due("joins in the hour that comes", () -> x.whose(0, 1, 1), 3);
    Edge.due("the last one", () -> x.hush(1), 0);
    Edge.due("owns it", () -> x.tune(0, 1), 1);
    Edge.due("begins in the hour that comes, ahead of none", () -> x.whose(0, 1, 1), 2);
    HummedTunes tired = Check.told("person 9 1 0 0;tune 1 of 0;");
    tired.hours(1);
    tired.hush(0);
    Edge.due("not rested", () -> tired.then(0, 1, 0), -1);
    Edge.due("rested an hour on", () -> tired.then(0, 2, 0), 0);
    Edge.by("Promise 9", "HUSHED: the TUNE.");
    HummedTunes six = Check.told("person 9 0 0 0;" + Edge.times(5, "tune 1;") + "tune 1 of 0;");
    six.hours(1);
    Edge.due("the last of six", () -> six.hush(0), 5);
    Edge.by("Promise 9", "NONE (STATUS 1): one hums nothing.");
    Edge.refused("hushed already", six, 13, () -> six.hush(0));
    HummedTunes still = Check.told(BOTH);
    Edge.refused("not begun", still, 13, () -> still.hush(0));
    Edge.refused("nor the other one", still, 13, () -> still.hush(1));
    int[] wrong = {2, 8, -1, Integer.MIN_VALUE, Integer.MAX_VALUE};
    for (int person : wrong) {
      Edge.throwsOnly("hush(" + person + ")", still, "NoSuchElementException", () -> still.hush(person));
    }
  }

  private static void coughing() {
    Edge.by("2", "a COUGH: all who hum a TUNE stop at once (one: that one OWNS it; several: nobody)");
    HummedTunes two = Check.told(BOTH);
    two.hours(1);
    two.cough(0);
    Edge.due("several: nobody", () -> two.tune(0, 1), -1);
    Edge.due("nobody hums", () -> two.count(4), 0);
    HummedTunes one = Check.told("person 1 9 0 0;person 20 0 1 0;tune 1 of 0;joins 1;");
    one.hours(2);
    one.cough(0);
    Edge.due("one: that one", () -> one.tune(0, 1), 1);
    Edge.due("not the other tune's", () -> {
      HummedTunes x = Check.told("person 9 0 0 0;person 9 0 30 0;tune 1 of 0;tune 2 of 1;");
      x.hours(1);
      x.cough(0);
      return x.count(4);
    }, 2);
    Edge.by("Promise 10", "A COUGH: who hummed it (bits).");
    HummedTunes eight = Check.told(Edge.times(8, "person 9 0 0 0;") + "tune 1 of 0;joins 1;");
    eight.hours(1);
    Edge.due("eight", () -> eight.cough(0), 255);
    HummedTunes last = Check.told(Edge.times(8, "person 9 0 0 0;") + "tune 1 of 7;");
    last.hours(1);
    Edge.due("the last one alone", () -> last.cough(0), 128);
    Edge.due("whose it is", () -> last.tune(0, 1), 7);
    Edge.by("Promise 10", "NONE (STATUS 1): nobody.");
    Edge.refused("nobody any more", last, 13, () -> last.cough(0));
    HummedTunes still = Check.told(BOTH);
    Edge.refused("nobody yet", still, 13, () -> still.cough(0));
    still.hours(1);
    Edge.refused("nobody hums the other one", still, 13, () -> still.cough(1));
    int[] wrong = {2, 6, -1, Integer.MIN_VALUE, Integer.MAX_VALUE};
    for (int tune : wrong) {
      Edge.throwsOnly("cough(" + tune + ")", still, "NoSuchElementException", () -> still.cough(tune));
    }
  }

  private static void selling() {
    Edge.by("2", "a TUNE is SOLD by the OWNER, if nobody hums it, to another one who has a COW, for one COW (who sold it has one COW more, also above 9)");
    HummedTunes x = Check.told("person 9 0 0 9;person 9 0 30 2;tune 1 of 0;tune 2 of 0;tune 3;");
    Edge.due("sold", () -> x.sell(0, 1), 0);
    Edge.due("ten cows", () -> x.person(0, 3), 10);
    Edge.due("one is left", () -> x.person(1, 3), 1);
    Edge.due("and another one", () -> x.sell(1, 1), 0);
    Edge.due("eleven cows", () -> x.person(0, 3), 11);
    Edge.due("none is left", () -> x.person(1, 3), 0);
    Edge.due("both tunes", () -> x.person(1, 6), 3);
    Edge.by("Promise 11", "SOLD: who OWNED it.");
    Edge.due("sold back", () -> x.sell(0, 0), 1);
    Edge.due("from above 9 down", () -> x.person(0, 3), 10);
    Edge.due("all cows", () -> x.count(8), 11);
    HummedTunes eight = Check.told(Edge.times(8, "person 9 0 0 1;") + "tune 1 of 7;");
    Edge.due("the last one's", () -> eight.sell(0, 0), 7);
    Edge.by("Promise 11", "NONE (STATUS 1): nobody OWNS it, somebody hums it, it is the buyer's, who has no COW.");
    HummedTunes y = Check.told("person 9 0 0 1;person 9 0 30 1;person 9 0 30 0;tune 1 of 0;tune 2 of 0;tune 3;");
    Edge.refused("nobody owns it", y, 13, () -> y.sell(2, 1));
    Edge.refused("it is the buyer's", y, 13, () -> y.sell(0, 0));
    Edge.refused("who has no cow", y, 13, () -> y.sell(0, 2));
    y.hours(1);
    Edge.refused("somebody hums it", y, 13, () -> y.sell(0, 1));
    Edge.due("nobody hums the other one", () -> y.sell(1, 1), 0);
    HummedTunes other = Check.told("person 1 0 0 1;person 20 0 1 1;tune 1 of 0;joins 1;");
    other.hours(2);
    Edge.refused("another one hums it", other, 13, () -> other.sell(0, 1));
    Edge.by("Promise 11", "NoSuchElementException (ahead): no such TUNE, PERSON.");
    int[] wrong = {3, 8, -1, Integer.MIN_VALUE, Integer.MAX_VALUE};
    for (int n : wrong) {
      Edge.throwsOnly("sell(" + n + ", 1)", y, "NoSuchElementException", () -> y.sell(n, 1));
      Edge.throwsOnly("sell(0, " + n + ")", y, "NoSuchElementException", () -> y.sell(0, n));
      Edge.throwsOnly("nobody owns it, but no such one", y, "NoSuchElementException", () -> y.sell(2, n));
    }
  }

  private static void going() {
    Edge.by("2", "one GOES to another PLACE.");
    HummedTunes x = Check.told("earshot 0;person 9 0 0 0;person 9 0 30 0;tune 1 of 0;joins 1;");
    for (int place = 1; place <= 30; place++) {
      int p = place;
      Edge.due("go(0, " + p + ")", () -> x.go(0, p), p - 1);
      Edge.due("hears", () -> x.person(0, 8), p == 30 ? 2 : 0);
    }
    Edge.due("is heard", () -> x.whose(0, 1, 1), 3);
    Edge.by("Promise 12", "GOES: the PLACE as it was.");
    Edge.due("from one end to the other", () -> x.go(0, 0), 30);
    Edge.due("and back", () -> x.go(0, 30), 0);
    x.hours(1);
    Edge.due("who hums goes as well", () -> x.go(0, 29), 30);
    Edge.due("and hums on", () -> x.person(0, 4), 0);
    Edge.by("Promise 12", "NONE (STATUS 1): not 0 to 30, one is there.");
    Edge.refused("31", x, 13, () -> x.go(0, 31));
    Edge.refused("one is there", x, 13, () -> x.go(0, 29));
    for (int place : WILD) {
      Edge.refused("go(0, " + place + ")", x, 13, () -> x.go(0, place));
    }
    HummedTunes zero = Check.told("person 9 0 0 0;");
    Edge.refused("one is at 0", zero, 13, () -> zero.go(0, 0));
    int[] wrong = {2, 8, -1, Integer.MIN_VALUE, Integer.MAX_VALUE};
    for (int person : wrong) {
      Edge.throwsOnly("go(" + person + ", 5)", x, "NoSuchElementException", () -> x.go(person, 5));
      Edge.throwsOnly("go(" + person + ", 31)", x, "NoSuchElementException", () -> x.go(person, 31));
    }
  }

  // ---- 13

  private static void keptActs() {
    Edge.by("2", "ACTS (at most 40 are kept, the latest ones)");
    int[] many = {39, 40, 41, 45, 100};
    for (int acts : many) {
      HummedTunes x = Check.told("person 9 0 0 0;");
      for (int i = 1; i <= acts; i++) {
        x.go(0, i % 31);
      }
      int kept = Math.min(acts, 40);
      Edge.due(acts + " acts", () -> x.count(9), kept);
      for (int left = kept - 1; left >= 0; left--) {
        int l = left;
        Edge.due("undo", x::undo, l);
        int behind = acts - (kept - left);
        Edge.due("the latest ones", () -> x.person(0, 2), behind % 31);
      }
      Edge.due("no more", x::undo, -1);
      Edge.due("an act anew", () -> x.go(0, 30), (acts - kept) % 31);
      Edge.due("is kept", () -> x.count(9), 1);
    }
  }

  private static void undoing() {
    Edge.by("2", "They are UNDONE, the last one first.");
    HummedTunes x = Check.told("person 9 0 0 1;person 9 2 4 1;person 9 0 30 1;tune 1 of 0;tune 2 of 2;joins 1;");
    String[] states = new String[6];
    states[0] = Edge.state(x);
    x.hours(3);
    states[1] = Edge.state(x);
    x.hush(1);
    states[2] = Edge.state(x);
    x.cough(1);
    states[3] = Edge.state(x);
    x.sell(1, 0);
    states[4] = Edge.state(x);
    x.go(2, 4);
    states[5] = Edge.state(x);
    x.hours(20);
    x.hours(0);
    Edge.due("six acts, and a refused one that is none", () -> x.count(9), 6);
    Edge.by("Promise 13", "The last ACT is UNDONE: how many are left.");
    for (int left = 5; left >= 0; left--) {
      int l = left;
      Edge.due("undo", x::undo, l);
      Edge.due("as it was with " + l, () -> Edge.state(x), states[l]);
    }
    Edge.by("Promise 13", "NONE: there is none.");
    int refused = x.count(13);
    String before = Edge.state(x);
    Edge.due("undo", x::undo, -1);
    Edge.due("and again", x::undo, -1);
    Edge.due("nothing changes", () -> Edge.state(x), before);
    Edge.due("no STATUS: no act was refused", () -> x.count(13), refused);
    Edge.due("a new object", () -> new HummedTunes().undo(), -1);
    HummedTunes only = Check.told(BOTH);
    only.hours(0);
    only.hush(0);
    Edge.due("refused acts are none", only::undo, -1);
  }
}
