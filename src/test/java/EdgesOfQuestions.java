/** ==== 3. and promises 14 to 26: what will be, who hears whom, what one could do, a round. */
final class EdgesOfQuestions {
  private static final String LIVELY = "earshot 6;person 3 1 0 2;person 5 2 4 0;whistler 2 0 9 1;person 4 0 14 3;"
      + "tune 4 of 0;tune 2 of 1;tune 7;tune 1 of 3;joins 7-far;stops with=3;";
  /** The first one hums again from the 43rd HOUR on; the second one joins in the 58th, and is the last in the 60th. */
  private static final String SIXTY =
      "person 20 0 0 0;person 19 0 1 0;tune 3 of 0;stops (hour=58)*(breath=20)+(hour=59);joins hour=57;";
  /** One hums twenty HOURS, is silent for one, and hums again; nobody hums the other TUNE. */
  private static final String ALONE = "person 20 0 0 0;tune 5 of 0;tune 6;";
  /** Two who begin together and stop together. */
  private static final String TWO = "person 2 0 0 0;person 2 0 1 0;tune 3 of 0;joins 1;";

  private EdgesOfQuestions() {
  }

  static void all() {
    fromNowOn();
    thenEdges();
    whoseEdges();
    getsEdges();
    silentEdges();
    loudestEdges();
    richestEdges();
    takenEdges();
    laterEdges();
    humsEdges();
    partsEdges();
    farthestEdges();
    allHearEdges();
    breatheEdges();
    standEdges();
    hushEdges();
    withoutEdges();
    roundEdges();
  }

  private interface Ask {
    int answer(int number);
  }

  /** HOURS from least to 60 are answered, others are unfit. */
  private static void hoursFrom(int least, String what, Ask ask) {
    for (int hours = least; hours <= 60; hours++) {
      int h = hours;
      Edge.due(what + " " + h + " is answered", () -> ask.answer(h) >= -1, true);
    }
    int[] wrong = {least - 1, 61, -1, -60, 256 + least, Integer.MIN_VALUE, Integer.MAX_VALUE};
    for (int hours : wrong) {
      Edge.unfit(what + " " + hours, () -> ask.answer(hours));
    }
  }

  /** Numbers from 0 on that are answered, and none besides; ahead of whatever else is wrong. */
  private static void only(int many, String what, Ask ask, Ask unfit) {
    for (int n = 0; n < many; n++) {
      int number = n;
      Edge.due(what + " " + n + " is answered", () -> ask.answer(number) >= -1, true);
    }
    int[] wrong = {-1, many, many + 1, 256, Integer.MIN_VALUE, Integer.MAX_VALUE};
    for (int number : wrong) {
      Edge.missing(what + " " + number, () -> ask.answer(number));
      Edge.missing(what + " " + number + ", ahead of what is unfit", () -> unfit.answer(number));
    }
  }

  // ---- what will be

  private static void fromNowOn() {
    Edge.by("3", "(If only HOURS go by, from now on; the k-th one, 1 on, is the one that comes first:)");
    HummedTunes x = Check.told(LIVELY);
    HummedTunes y = Check.told(LIVELY);
    x.hours(3);
    y.hours(3);
    String before = Edge.state(x);
    for (int h = 0; h <= 60; h++) {
      int hours = h;
      for (int p = 0; p < 4; p++) {
        int person = p;
        Edge.due("then(" + p + ", " + h + ", 0)", () -> x.then(person, hours, 0), y.person(p, 4));
        Edge.due("then(" + p + ", " + h + ", 1)", () -> x.then(person, hours, 1), y.person(p, 5));
        Edge.due("then(" + p + ", " + h + ", 2)", () -> x.then(person, hours, 2), Integer.bitCount(y.person(p, 6)));
      }
      for (int t = 0; t < 4; t++) {
        int tune = t;
        Edge.due("whose(" + t + ", " + h + ", 0)", () -> x.whose(tune, hours, 0), y.tune(t, 1));
        Edge.due("whose(" + t + ", " + h + ", 1)", () -> x.whose(tune, hours, 1), y.tune(t, 2));
      }
      y.hours(1);
    }
    Edge.due("nothing has gone by", () -> Edge.state(x), before);
  }

  private static void thenEdges() {
    Edge.by("3", "THEN, behind so many HOURS (0 to 60): what one hums (none), for how long, how many TUNES one OWNS.");
    HummedTunes x = Check.told(ALONE);
    Edge.due("now: nothing", () -> x.then(0, 0, 0), -1);
    Edge.due("now: for none", () -> x.then(0, 0, 1), 0);
    Edge.due("now: one", () -> x.then(0, 0, 2), 1);
    Edge.due("20 hours", () -> x.then(0, 20, 1), 20);
    Edge.due("21: nothing", () -> x.then(0, 21, 0), -1);
    Edge.due("21: for none", () -> x.then(0, 21, 1), 0);
    Edge.due("60: from the 43rd on", () -> x.then(0, 60, 1), 18);
    HummedTunes six = Check.told("person 1 0 0 0;person 1 0 0 0;" + Edge.times(6, "tune 1 of 0;"));
    Edge.due("six", () -> six.then(0, 60, 2), 6);
    Edge.due("none", () -> six.then(1, 60, 2), 0);
    Edge.by("Promise 14", "THEN: what one hums (what 0; NONE), for how long (1), how many TUNES (2).");
    HummedTunes both = Check.told(TWO);
    Edge.due("hums", () -> both.then(1, 2, 0), 0);
    Edge.due("none", () -> both.then(1, 3, 0), -1);
    Edge.due("for two", () -> both.then(1, 2, 1), 2);
    Edge.due("owned no more", () -> both.then(0, 3, 2), 0);
    Edge.by("Promise 14", "NoSuchElementException: also another what.");
    only(3, "what", what -> both.then(0, 5, what), what -> both.then(0, 61, what));
    only(2, "person", person -> both.then(person, 5, 0), person -> both.then(person, -1, 0));
    Edge.by("Promise 14", "IllegalArgumentException (behind that): not 0 to 60.");
    hoursFrom(0, "then", hours -> both.then(0, hours, 0));
  }

  private static void whoseEdges() {
    Edge.by("3", "WHOSE a TUNE is then (nobody); who hums it (bits).");
    HummedTunes eight = Check.told(Edge.times(8, "person 3 9 0 0;") + "tune 1;tune 2 of 0;joins 1;");
    Edge.due("now", () -> eight.whose(1, 0, 0), 0);
    Edge.due("who hums now", () -> eight.whose(1, 0, 1), 0);
    Edge.due("all", () -> eight.whose(1, 3, 1), 255);
    Edge.due("the owner's still", () -> eight.whose(1, 3, 0), 0);
    Edge.due("nobody's", () -> eight.whose(1, 4, 0), -1);
    Edge.due("nobody's for good", () -> eight.whose(1, 60, 0), -1);
    Edge.due("nobody's from the start", () -> eight.whose(0, 0, 0), -1);
    Edge.by("Promise 15", "WHOSE (what 0; NONE), who hums it (1; bits).");
    HummedTunes x = Check.told(SIXTY);
    Edge.due("behind 59", () -> x.whose(0, 59, 0), 0);
    Edge.due("who hums behind 59", () -> x.whose(0, 59, 1), 2);
    Edge.due("behind 60", () -> x.whose(0, 60, 0), 1);
    Edge.due("who hums behind 60", () -> x.whose(0, 60, 1), 0);
    Edge.by("Promise 15", "NoSuchElementException: also another what.");
    only(2, "what", what -> x.whose(0, 5, what), what -> x.whose(0, 61, what));
    only(1, "tune", tune -> x.whose(tune, 5, 0), tune -> x.whose(tune, -1, 0));
    Edge.by("Promise 15", "IllegalArgumentException (behind that): not 0 to 60.");
    hoursFrom(0, "whose", hours -> x.whose(0, hours, 0));
  }

  private static void getsEdges() {
    Edge.by("3", "GETS: behind how many HOURS (0 to 60) one first OWNS a TUNE; none.");
    HummedTunes x = Check.told(SIXTY);
    Edge.due("now", () -> x.gets(0, 0), 0);
    Edge.due("behind 60", () -> x.gets(1, 0), 60);
    x.hours(1);
    Edge.due("an hour nearer", () -> x.gets(1, 0), 59);
    HummedTunes later =
        Check.told("person 20 0 0 0;person 19 0 1 0;tune 3 of 0;stops (hour=59)*(breath=20)+(hour=60);joins hour=58;");
    Edge.due("an hour later it is behind 61", () -> later.gets(1, 0), -1);
    later.hours(1);
    Edge.due("and behind 60 then", () -> later.gets(1, 0), 60);
    Edge.by("Promise 16", "GETS; NONE: none.");
    HummedTunes two = Check.told(TWO);
    Edge.due("never", () -> two.gets(1, 0), -1);
    two.hours(3);
    Edge.due("nobody's any more", () -> two.gets(0, 0), -1);
    int[] wrong = {-1, 2, 256, Integer.MIN_VALUE, Integer.MAX_VALUE};
    for (int n : wrong) {
      Edge.missing("gets(" + n + ", 0)", () -> two.gets(n, 0));
      Edge.missing("gets(0, " + n + ")", () -> two.gets(0, n));
    }
    Edge.missing("gets(0, 1)", () -> two.gets(0, 1));
  }

  private static void silentEdges() {
    Edge.by("3", "SILENT: in how many of so many HOURS (1 to 60) nobody hums a TUNE at the end.");
    HummedTunes x = Check.told(ALONE);
    int[] hours = {1, 20, 21, 41, 42, 60};
    int[] silent = {0, 0, 1, 1, 2, 2};
    for (int i = 0; i < hours.length; i++) {
      int h = hours[i];
      Edge.due("hummed: " + h, () -> x.silent(0, h), silent[i]);
      Edge.due("never hummed: " + h, () -> x.silent(1, h), h);
    }
    Edge.by("Promise 17", "SILENT.");
    x.hours(20);
    Edge.due("the hour that comes", () -> x.silent(0, 1), 1);
    Edge.due("now does not count", () -> Check.told(ALONE).silent(0, 1), 0);
    Edge.by("Promise 17", "IllegalArgumentException (behind NoSuchElementException): not 1 to 60.");
    hoursFrom(1, "silent", h -> x.silent(0, h));
    only(2, "tune", tune -> x.silent(tune, 1), tune -> x.silent(tune, 0));
  }

  private static void loudestEdges() {
    Edge.by("3", "LOUDEST: the HOUR of so many (1 to 60) at whose end most hum (of like ones the first).");
    HummedTunes x = Check.told("person 20 0 0 0;person 20 0 1 0;tune 3 of 0;joins hour=59;");
    Edge.due("two hum in the 60th", () -> x.loudest(60), 60);
    Edge.due("one ahead of it: the first", () -> x.loudest(59), 1);
    Edge.due("only one", () -> x.loudest(1), 1);
    Edge.due("nobody hums", () -> Check.told("person 1 0 0 0;tune 1;").loudest(60), 1);
    Edge.due("nobody", () -> new HummedTunes().loudest(1), 1);
    HummedTunes eight = Check.told(Edge.times(8, "person 20 0 0 0;") + "tune 1 of 7;joins 1;");
    Edge.due("eight in the second", () -> eight.loudest(60), 2);
    Edge.by("Promise 18", "LOUDEST.");
    eight.hours(1);
    Edge.due("the next hour is the first", () -> eight.loudest(60), 1);
    eight.hours(1);
    Edge.due("how many hum now does not count", () -> eight.loudest(1), 1);
    Edge.by("Promise 18", "IllegalArgumentException: not 1 to 60.");
    hoursFrom(1, "loudest", h -> eight.loudest(h));
    Edge.unfit("of nobody", () -> new HummedTunes().loudest(0));
  }

  private static void richestEdges() {
    Edge.by("3", "RICHEST behind so many HOURS (0 to 60): who OWNS most TUNES (of like ones the least); none.");
    HummedTunes x = Check.told(SIXTY);
    Edge.due("now", () -> x.later(0, 0), 0);
    Edge.due("behind 59", () -> x.later(59, 0), 0);
    Edge.due("behind 60", () -> x.later(60, 0), 1);
    String eight = Edge.times(8, "person 1 0 0 0;");
    Edge.due("all alike: none", () -> Check.told(eight + "tune 1;").later(0, 0), 0);
    Edge.due("all alike: no tunes", () -> Check.told(eight).later(60, 0), 0);
    Edge.due("the last one", () -> Check.told(eight + "tune 1 of 7;").later(60, 0), 7);
    Edge.due("the least of two", () -> Check.told(eight + "tune 1 of 7;tune 1 of 3;").later(0, 0), 3);
    Edge.due("two are more than one", () -> Check.told(eight + "tune 1 of 7;tune 1 of 3;tune 1 of 7;").later(0, 0), 7);
    Edge.due("nobody", () -> Check.told("tune 1;").later(0, 0), -1);
  }

  private static void takenEdges() {
    Edge.by("3", "TAKEN in so many HOURS (0 to 60): how often a TUNE came to another OWNER (to nobody, too), all together.");
    HummedTunes x = Check.told(SIXTY);
    Edge.due("in none", () -> x.later(0, 1), 0);
    Edge.due("in 59", () -> x.later(59, 1), 0);
    Edge.due("in 60", () -> x.later(60, 1), 1);
    Edge.due("to oneself is none", () -> Check.told(ALONE).later(60, 1), 0);
    Edge.due("to nobody", () -> Check.told(TWO).later(3, 1), 1);
    Edge.due("not yet", () -> Check.told(TWO).later(2, 1), 0);
    Edge.due("nobody's stays nobody's", () -> Check.told(TWO).later(60, 1), 1);
    String apart = "person 2 0 0 0;person 2 0 1 0;person 2 0 20 0;person 2 0 21 0;tune 3 of 0;tune 4 of 2;joins 1;";
    Edge.due("of two tunes", () -> Check.told(apart).later(3, 1), 2);
    HummedTunes again = Check.told(TWO);
    for (int i = 0; i < 3; i++) {
      Edge.due("asked again", () -> again.later(60, 1), 1);
      Edge.due("years count anew", () -> again.years(0, 0, 0), 0);
    }
    HummedTunes behind = Check.told(TWO);
    behind.hours(3);
    Edge.due("what was taken ahead does not count", () -> behind.later(60, 1), 0);
  }

  private static void laterEdges() {
    Edge.by("Promise 19", "RICHEST (what 0; NONE: nobody), TAKEN (1).");
    HummedTunes x = Check.told(TWO);
    Edge.due("richest", () -> x.later(0, 0), 0);
    Edge.due("taken", () -> x.later(60, 1), 1);
    Edge.due("nobody", () -> new HummedTunes().later(60, 0), -1);
    Edge.due("nobody takes", () -> new HummedTunes().later(60, 1), 0);
    Edge.by("Promise 19", "NoSuchElementException: another what.");
    only(2, "what", what -> x.later(5, what), what -> x.later(61, what));
    Edge.by("Promise 19", "IllegalArgumentException (behind that): not 0 to 60.");
    hoursFrom(0, "richest", hours -> x.later(hours, 0));
    hoursFrom(0, "taken", hours -> x.later(hours, 1));
    Edge.unfit("of nobody", () -> new HummedTunes().later(61, 0));
  }

  // ---- who hears whom

  private static final String ROW = "earshot 1;person 1 0 0 0;person 1 0 1 0;person 1 0 2 0;person 1 0 3 0;"
      + "person 1 0 4 0;person 1 0 5 0;person 1 0 6 0;person 1 0 7 0;";
  /** The whistler hears the others, who don't hear the whistler. */
  private static final String ONE_WAY = "earshot 2;person 1 0 0 0;person 1 0 2 0;whistler 1 0 6 0;";

  private static void humsEdges() {
    Edge.by("3", "HEARS: whom one HEARS (bits).");
    HummedTunes row = Check.told(ROW);
    Edge.due("the first one", () -> row.person(0, 8), 2);
    Edge.due("one between", () -> row.person(3, 8), 20);
    Edge.due("the last one", () -> row.person(7, 8), 64);
    Edge.by("3", "HUMS from one to another one: the fewest steps, each to one who HEARS the one before");
    for (int a = 0; a < 8; a++) {
      for (int b = 0; b < 8; b++) {
        int from = a;
        int to = b;
        Edge.due("hums(" + a + ", " + b + ")", () -> row.hums(from, to), Math.abs(from - to));
      }
    }
    HummedTunes way = Check.told(ONE_WAY);
    Edge.due("by two steps", () -> way.hums(0, 2), 2);
    Edge.due("by one", () -> way.hums(1, 2), 1);
    Edge.due("not back", () -> way.hums(2, 1), -1);
    Edge.due("nor farther", () -> way.hums(2, 0), -1);
    Edge.by("Promise 20", "HUMS (0 to oneself); NONE: none.");
    Edge.due("oneself", () -> way.hums(2, 2), 0);
    Edge.due("oneself alone", () -> Check.told("person 1 0 0 0;").hums(0, 0), 0);
    row.go(3, 30);
    Edge.due("cut in two", () -> row.hums(0, 7), -1);
    Edge.due("on this side", () -> row.hums(0, 2), 2);
    only(8, "from", person -> row.hums(person, 0), person -> row.hums(person, 8));
    only(8, "to", other -> row.hums(0, other), other -> row.hums(-1, other));
  }

  private static void partsEdges() {
    Edge.by("3", "PARTS: how many there are of PEOPLE of whom each can be reached so by HUMS from each (to and fro).");
    Edge.due("nobody", () -> new HummedTunes().count(6), 0);
    Edge.due("one", () -> Check.told("person 1 0 0 0;").count(6), 1);
    Edge.due("to and fro only", () -> Check.told(ONE_WAY).count(6), 2);
    HummedTunes row = Check.told(ROW);
    Edge.due("all", () -> row.count(6), 1);
    row.go(3, 30);
    Edge.due("three", () -> row.count(6), 3);
    Edge.due("each alone", () -> Check.told(ROW.replace("earshot 1", "earshot 0")).count(6), 8);
  }

  private static void farthestEdges() {
    Edge.by("3", "FARTHEST from one: who is most HUMS away of those to whom there are any (of like ones the least; not oneself); none.");
    HummedTunes row = Check.told(ROW);
    int[] want = {7, 7, 7, 7, 0, 0, 0, 0};
    for (int p = 0; p < 8; p++) {
      int person = p;
      Edge.due("farthest(" + p + ")", () -> row.farthest(person), want[p]);
    }
    HummedTunes seven = Check.told(ROW.substring(0, ROW.length() - "person 1 0 7 0;".length()));
    Edge.due("of like ones the least", () -> seven.farthest(3), 0);
    HummedTunes crowd = Check.told(Edge.times(3, "person 1 0 0 0;"));
    Edge.due("not oneself", () -> crowd.farthest(0), 1);
    Edge.due("the least", () -> crowd.farthest(2), 0);
    Edge.by("Promise 21", "FARTHEST; NONE: none.");
    Edge.due("alone", () -> Check.told("person 1 0 0 0;").farthest(0), -1);
    Edge.due("whom nobody hears", () -> Check.told(ONE_WAY).farthest(2), -1);
    Edge.due("the whistler", () -> Check.told(ONE_WAY).farthest(0), 2);
    only(3, "farthest", person -> crowd.farthest(person), person -> crowd.farthest(person));
  }

  private static void allHearEdges() {
    Edge.by("3", "ALL HEAR: the fewest PEOPLE, so that each other one HEARS one of them (a whistler as far as one does): of as few the least as bits.");
    Edge.due("nobody", () -> new HummedTunes().count(7), 0);
    Edge.due("one", () -> Check.told("person 1 0 0 0;").count(7), 1);
    Edge.due("a crowd: the least", () -> Check.told(Edge.times(8, "person 1 0 0 0;")).count(7), 1);
    Edge.due("each alone", () -> Check.told(ROW.replace("earshot 1", "earshot 0")).count(7), 255);
    // The seventh is heard by the last three; 0 and 3 are the least two by whom the others are heard.
    Edge.due("a row of eight", () -> Check.told(ROW).count(7), 1 + 8 + 64);
    Edge.due("a whistler hears the middle one", () -> Check.told(ONE_WAY).count(7), 2);
    Edge.due("another one does not", () -> Check.told(ONE_WAY.replace("whistler", "person")).count(7), 5);
    Edge.due("a whistler alone is not heard so far", () -> Check.told("earshot 2;person 1 0 0 0;whistler 1 0 3 0;").count(7), 1);
    Edge.due("whoever comes first", () -> Check.told("earshot 2;whistler 1 0 3 0;person 1 0 0 0;").count(7), 2);
  }

  // ---- what one could do

  private static void breatheEdges() {
    Edge.by("3", "TO BREATHE: the least BREATH (1 to 20) that one must have now, so that one OWNS a TUNE behind so many HOURS (1 to 60); none.");
    HummedTunes least = Check.told(ALONE);
    Edge.due("1", () -> least.toBreathe(0, 0, 60), 1);
    Edge.due("none", () -> least.toBreathe(0, 1, 60), -1);
    // Only one with a breath of 20 joins, hums for 20 hours and is the last.
    HummedTunes most = Check.told("person 3 9 0 0;person 1 0 1 0;tune 1 of 0;joins breath=20;");
    Edge.due("20", () -> most.toBreathe(1, 0, 21), 20);
    Edge.due("not yet", () -> most.toBreathe(1, 0, 20), -1);
    HummedTunes beyond = Check.told("person 3 9 0 0;person 1 0 1 0;tune 1 of 0;joins breath=21;");
    Edge.due("21 is none", () -> beyond.toBreathe(1, 0, 60), -1);
    HummedTunes sixty = Check.told(SIXTY);
    Edge.due("behind 60", () -> sixty.toBreathe(1, 0, 60), 2);
    Edge.due("not behind 59", () -> sixty.toBreathe(1, 0, 59), -1);
    Edge.due("in one hour", () -> sixty.toBreathe(0, 0, 1), 1);
    Edge.by("Promise 22", "TO BREATHE; NONE: none.");
    HummedTunes two = Check.told(TWO);
    Edge.due("the breath that one has does not do", () -> two.toBreathe(0, 0, 3), 3);
    Edge.due("none in so short a time", () -> two.toBreathe(1, 0, 3), -1);
    Edge.due("the breath stays", () -> two.person(0, 0), 2);
    Edge.by("Promise 22", "IllegalArgumentException (behind NoSuchElementException): not 1 to 60.");
    hoursFrom(1, "toBreathe", hours -> two.toBreathe(0, 0, hours));
    only(2, "person", person -> two.toBreathe(person, 0, 1), person -> two.toBreathe(person, 0, 0));
    only(1, "tune", tune -> two.toBreathe(0, tune, 1), tune -> two.toBreathe(0, tune, 61));
  }

  private static void standEdges() {
    Edge.by("3", "TO STAND: the PLACE (0 to 30) at which, stood one there now, one would OWN most TUNES behind so many HOURS (1 to 60; of like ones the least): which; how many.");
    HummedTunes end = Check.told("person 4 0 0 0;person 4 0 30 0;tune 3 of 1;joins far=0;");
    Edge.due("only at 30", () -> end.toStand(0, 6, 0), 30);
    Edge.due("one there", () -> end.toStand(0, 6, 1), 1);
    Edge.due("nowhere in five hours", () -> end.toStand(0, 5, 0), 0);
    Edge.due("none in five hours", () -> end.toStand(0, 5, 1), 0);
    HummedTunes start = Check.told("person 4 0 30 0;person 4 0 0 0;tune 3 of 1;joins far=0;");
    Edge.due("only at 0", () -> start.toStand(0, 6, 0), 0);
    Edge.due("one there", () -> start.toStand(0, 6, 1), 1);
    HummedTunes sixty = Check.told(SIXTY.replace("19 0 1 0", "19 0 30 0"));
    Edge.due("behind 60, in earshot", () -> sixty.toStand(1, 60, 0), 0);
    Edge.due("behind 60", () -> sixty.toStand(1, 60, 1), 1);
    Edge.due("not behind 59", () -> sixty.toStand(1, 59, 1), 0);
    Edge.by("Promise 23", "TO STAND: which (what 0), how many (1).");
    HummedTunes six = Check.told("person 9 0 7 0;" + Edge.times(6, "tune 1 of 0;"));
    Edge.due("anywhere: the least", () -> six.toStand(0, 60, 0), 0);
    Edge.due("six", () -> six.toStand(0, 60, 1), 6);
    Edge.due("one stays", () -> six.person(0, 2), 7);
    HummedTunes none = Check.told("person 9 0 7 0;");
    Edge.due("no tunes: the least", () -> none.toStand(0, 1, 0), 0);
    Edge.due("no tunes: none", () -> none.toStand(0, 1, 1), 0);
    Edge.by("Promise 23", "NoSuchElementException: also another what.");
    only(2, "what", what -> end.toStand(0, 5, what), what -> end.toStand(0, 61, what));
    only(2, "person", person -> end.toStand(person, 5, 0), person -> end.toStand(person, 0, 0));
    Edge.by("Promise 23", "IllegalArgumentException (behind that): not 1 to 60.");
    hoursFrom(1, "toStand", hours -> end.toStand(0, hours, 0));
  }

  private static void hushEdges() {
    Edge.by("3", "TO HUSH: of those who hum (oneself, too) the one by whose HUSHING now one would OWN most TUNES");
    HummedTunes x = Check.told("person 9 9 0 0;person 9 9 1 0;tune 1 of 0;joins 1;");
    Edge.due("nobody hums", () -> x.toHush(0, 60), -1);
    x.hours(1);
    // Behind nine more both would stop together; whoever is hushed now is not rested until then.
    Edge.due("the other one", () -> x.toHush(0, 9), 1);
    Edge.due("the first one", () -> x.toHush(1, 9), 0);
    Edge.by("3", "if more than without (of like ones the least); none.");
    Edge.due("one owns it anyway", () -> x.toHush(0, 8), -1);
    Edge.due("nor does the other one by then", () -> x.toHush(1, 8), -1);
    Edge.by("Promise 24", "TO HUSH; NONE: none.");
    HummedTunes two = Check.told(TWO);
    two.hours(1);
    // Hushed now, one joins in the next hour, and stops an hour behind the other one.
    Edge.due("oneself", () -> two.toHush(1, 3), 1);
    Edge.due("by either one: the least", () -> two.toHush(0, 2), 0);
    Edge.due("no difference yet", () -> two.toHush(0, 1), -1);
    Edge.due("who hums stays", () -> two.count(4), 3);
    HummedTunes last = Check.told("earshot 1;person 9 9 0 0;" + Edge.times(6, "person 9 9 20 0;") + "person 9 9 1 0;tune 1 of 0;joins 1;");
    last.hours(1);
    Edge.due("the last of eight", () -> last.toHush(0, 9), 7);
    Edge.by("Promise 24", "IllegalArgumentException (behind NoSuchElementException): not 1 to 60.");
    hoursFrom(1, "toHush", hours -> two.toHush(0, hours));
    only(2, "person", person -> two.toHush(person, 1), person -> two.toHush(person, 61));
  }

  private static void withoutEdges() {
    Edge.by("3", "WITHOUT: by whose leaving (whoever leaves is HUSHED now, if humming, and begins and joins nothing any more) one would OWN most TUNES");
    HummedTunes x = Check.told(TWO);
    Edge.due("the other one leaves", () -> x.without(0, 3), 1);
    Edge.due("and joins never", () -> x.without(0, 60), 1);
    Edge.due("not needed yet", () -> x.without(0, 2), -1);
    x.hours(1);
    Edge.due("one who hums leaves, too", () -> x.without(0, 60), 1);
    // Hushed, the first one would join again; gone, one begins nothing, and the other one is the last.
    Edge.due("the first one leaves", () -> x.without(1, 60), 0);
    HummedTunes owner = Check.told("person 9 0 0 0;person 9 0 1 0;tune 1 of 0;joins 1;");
    Edge.due("whoever has left begins nothing", () -> owner.without(1, 60), -1);
    Edge.by("3", "if more than without (of like ones the least; not oneself); none.");
    HummedTunes alone = Check.told("person 1 0 0 0;tune 1;");
    Edge.due("not oneself", () -> alone.without(0, 60), -1);
    Edge.due("no more than with", () -> Check.told(ALONE).without(0, 60), -1);
    // One with a breath of 9 takes the first tune, one with 8 the second, which one hums as the first is hummed.
    String takers = "tune 1 of 0;tune 2 of 0;joins (breath=9)*(air=1)+(breath=8)*(air=2);";
    HummedTunes most = Check.told("person 2 0 0 0;person 9 9 0 0;person 8 9 0 0;" + takers);
    Edge.due("none is left", () -> most.then(0, 15, 2), 0);
    Edge.due("two by the first one's leaving, one by the second one's", () -> most.without(0, 15), 1);
    HummedTunes turned = Check.told("person 2 0 0 0;person 8 9 0 0;person 9 9 0 0;" + takers);
    Edge.due("one by the first one's leaving, two by the second one's", () -> turned.without(0, 15), 2);
    HummedTunes like = Check.told("person 2 0 0 0;person 1 0 1 0;person 2 0 2 0;tune 3 of 0;joins (breath=1)*(with=1)+(breath=2)*(with=2);");
    Edge.due("of like ones the least", () -> like.without(0, 3), 1);
    Edge.by("Promise 25", "WITHOUT; NONE: none.");
    HummedTunes last = Check.told("earshot 1;person 2 0 0 0;" + Edge.times(6, "person 2 0 20 0;") + "person 2 0 1 0;tune 1 of 0;joins 1;");
    Edge.due("the last of eight", () -> last.without(0, 3), 7);
    Edge.due("none for those far off", () -> last.without(3, 60), -1);
    Edge.due("nobody has left", () -> last.whose(0, 1, 1), 129);
    Edge.by("Promise 25", "IllegalArgumentException (behind NoSuchElementException): not 1 to 60.");
    hoursFrom(1, "without", hours -> x.without(0, hours));
    only(2, "person", person -> x.without(person, 1), person -> x.without(person, 0));
  }

  private static void roundEdges() {
    Edge.by("3", "A ROUND: of all rows of TUNES that somebody OWNS, each once, one behind the other");
    HummedTunes six = Check.told("person 1 0 0 0;person 1 0 30 0;" + Edge.times(3, "tune 1 of 0;tune 1 of 1;"));
    int[] row = {0, 2, 4, 1, 3, 5};
    Edge.due("from one end to the other once", () -> six.round(-1), 30);
    for (int i = 0; i < 6; i++) {
      int at = i;
      Edge.due("round(" + i + ")", () -> six.round(at), row[i]);
    }
    Edge.by("3", "that by which the OWNERS' ways are least, all together (from each TUNE's OWNER's PLACE to that of the next one's)");
    HummedTunes far = Check.told("person 1 0 15 0;person 1 0 0 0;person 1 0 30 0;person 1 0 16 0;tune 1 of 0;tune 1 of 1;tune 1;tune 1 of 2;tune 1 of 3;");
    Edge.due("no way back to the first", () -> far.round(-1), 30);
    int[] along = {1, 0, 4, 3};
    for (int i = 0; i < 4; i++) {
      int at = i;
      Edge.due("round(" + i + ")", () -> far.round(at), along[i]);
    }
    Edge.by("3", "the i-th TUNE: of like ones the first row.");
    HummedTunes like = Check.told("person 1 0 9 0;" + Edge.times(6, "tune 1 of 0;"));
    for (int i = 0; i < 6; i++) {
      int at = i;
      Edge.due("all alike", () -> like.round(at), at);
    }
    Edge.by("Promise 26", "A ROUND: how far (i NONE; 0 without any), the i-th TUNE.");
    HummedTunes none = Check.told("person 1 0 9 0;tune 1;");
    Edge.due("without any", () -> none.round(-1), 0);
    Edge.due("one: no way", () -> Check.told("person 1 0 9 0;tune 1;tune 2 of 0;").round(-1), 0);
    Edge.due("one: the first", () -> Check.told("person 1 0 9 0;tune 1;tune 2 of 0;").round(0), 1);
    Edge.by("Promise 26", "NoSuchElementException: there is none.");
    int[] wrong = {-2, Integer.MIN_VALUE, Integer.MAX_VALUE, 256};
    for (int i : wrong) {
      Edge.missing("round(" + i + ")", () -> six.round(i));
      Edge.missing("round(" + i + "), none owned", () -> none.round(i));
    }
    Edge.missing("round(6)", () -> six.round(6));
    Edge.missing("round(4) of four", () -> far.round(4));
    Edge.missing("round(0) of none", () -> none.round(0));
    Edge.missing("round(0) of nobody", () -> new HummedTunes().round(0));
  }
}
