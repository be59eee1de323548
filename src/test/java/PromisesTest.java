/** The document, promise by promise: answers reckoned by hand. */
public final class PromisesTest {
  /** One who hums three hours and rests two. */
  private static final String ONE = "person 3 2 4 1;tune 5 of 0;";
  /** Two who begin together and stop together. */
  private static final String TWO = "person 2 0 0 0;person 2 0 1 0;tune 3 of 0;joins 1;";
  /** The document's people of the shared runs. */
  private static final String THREE =
      "person 3 1 0 2;person 5 2 4 0;whistler 2 0 9 1;tune 4 of 0;tune 2 of 1;tune 7;joins 6-far;";

  private PromisesTest() {
  }

  public static void main(String[] args) {
    newObject();
    feed();
    hills();
    faultsOfLines();
    faultsOfRules();
    rules();
    counts();
    people();
    hour();
    hoursActs();
    hushing();
    coughs();
    sales();
    going();
    undoing();
    foreseeing();
    ahead();
    hearing();
    advice();
    standing();
    leaving();
    rounds();
    seeing();
    deepAndLook();
    thunder();
    games();
    years();
    images();
    whichExceptionFirst();
    Check.end("PromisesTest");
  }

  private static void due(String what, Check.Call call, Object want) {
    Check.due(what, call, want);
  }

  // ---- 1 to 4

  private static void newObject() {
    HummedTunes x = new HummedTunes();
    int[] want = {0, 0, 0, 5, 0, 0, 0, 0, 0, 0, 0, 0, 0, 0, 0};
    for (int what = 0; what < want.length; what++) {
      int w = what;
      due("new: count(" + w + ")", () -> x.count(w), want[w]);
    }
    due("new: fault", () -> x.fault(), -1);
    due("new: undo", () -> x.undo(), -1);
    due("new: restore", () -> x.restore(), false);
    due("new: look(0)", () -> x.look(0), -1);
    due("new: hours", () -> x.hours(20), 20);
    Check.missing("new: person", () -> x.person(0, 0));
    Check.missing("new: tune", () -> x.tune(0, 0));
    Check.missing("new: round(0)", () -> x.round(0));
    due("NONE", () -> HummedTunes.NONE, -1);
  }

  private static void feed() {
    HummedTunes x = new HummedTunes();
    for (int i = 1; i <= 35; i++) {
      int want = 20 * i;
      due("feed", () -> x.feed(0x20202020, 0x0a202020, 0x20200a20, 0x20202020, 0x20202020), want);
    }
    due("feed beyond 700", () -> x.feed(0, 0, 0, 0, 0), -1);
    due("the tape stays", () -> x.count(11), 700);
    due("blanks alone", () -> x.hills(700), 0);
    due("the tape is empty", () -> x.count(11), 0);
    due("highest byte first", () -> x.feed(0x65617273, 0x686f7420, 0x3132333b, 0x80ff0941, 0), 20);
    due("123 is too far", () -> x.hills(12), 2);
    due("at the number", () -> x.fault(), 8);
    x.feed(0x65617273, 0x686f7420, 0x3330203b, 0x80ff0941, 0);
    due("only the first n bytes", () -> x.hills(12), 0);
    due("earshot", () -> x.count(3), 30);
    x.feed(0x80ff0941, 0, 0, 0, 0);
    due("a byte above 127 is no token", () -> x.hills(1), 1);
  }

  private static void hills() {
    HummedTunes x = Check.told(THREE);
    due("hours", () -> x.hours(2), 2);
    due("see", () -> x.see(0, 0, 3), 1);
    x.image();
    Check.feed(x, "tune 1 of 0; tune");
    Check.unfit("hills(21)", () -> x.hills(21));
    Check.unfit("hills(-1)", () -> x.hills(-1));
    Check.unfit("hills(least)", () -> x.hills(Integer.MIN_VALUE));
    due("the tape stays", () -> x.count(11), 20);
    due("no fault told", () -> x.fault(), -1);
    due("a fault", () -> x.hills(12), 3);
    due("where", () -> x.fault(), 10);
    due("the tape is empty", () -> x.count(11), 0);
    due("STATUS 0", () -> x.count(12), 1);
    due("people stay", () -> x.count(0), 3);
    due("the hour stays", () -> x.count(2), 2);
    due("acts stay", () -> x.count(9), 1);
    due("sights stay", () -> x.count(10), 1);
    due("the image stays", () -> x.restore(), true);
    due("STATUS as the image", () -> x.count(12), 0);
    due("where stays", () -> x.fault(), 10);
    due("refused", () -> x.go(0, 99), -1);
    due("all anew", () -> Check.tell(x, ONE), 0);
    due("no fault", () -> x.fault(), -1);
    due("people", () -> x.count(0), 1);
    due("tunes", () -> x.count(1), 1);
    due("hour 0", () -> x.count(2), 0);
    due("nobody hums", () -> x.count(4), 0);
    due("acts are gone", () -> x.count(9), 0);
    due("nothing undone", () -> x.undo(), -1);
    due("sights are gone", () -> x.count(10), 0);
    due("the image is gone", () -> x.restore(), false);
    due("STATUS 1 stays", () -> x.count(13), 1);
    due("rules are anew, too", () -> Check.tell(x, "person 2 0 0 0;person 2 0 1 0;tune 3 of 0;"), 0);
    due("nobody joins", () -> x.whose(0, 1, 1), 1);
    due("earshot is anew", () -> Check.tell(x, "earshot 7;"), 0);
    due("earshot told", () -> x.count(3), 7);
    String full = "tune 1;stops " + "1-".repeat(330) + "hour;";
    for (int i = 0; i < 5; i++) {
      due("a full text", () -> Check.tell(x, full), 0);
    }
    due("rules of a text behind full ones", () -> Check.tell(x, "person 9 0 0 0;person 9 0 1 0;tune 1 of 0;joins 1;stops hummed=2;"), 0);
    due("both join", () -> x.whose(0, 1, 1), 3);
    due("both stop", () -> x.whose(0, 3, 1), 0);
    due("earshot is anew", () -> Check.tell(x, "earshot 8;"), 0);
    due("nothing told", () -> x.hills(0), 0);
    due("earshot untold", () -> x.count(3), 5);
  }

  private static void fault(String text, int number, int place) {
    HummedTunes x = new HummedTunes();
    due("hills: " + text, () -> Check.tell(x, text), number);
    due("fault: " + text, () -> x.fault(), number == 0 ? -1 : place);
    due("STATUS 0: " + text, () -> x.count(12), number == 0 ? 0 : 1);
  }

  private static void good(String text) {
    fault(text, 0, -1);
  }

  private static void faultsOfLines() {
    fault("x", 1, 0);
    fault(";", 1, 0);
    fault("7", 1, 0);
    fault("12345", 1, 0);
    fault("not", 1, 0);
    fault("Person 1 1 1 1;", 1, 0);
    fault("personperson 1 1 1 1;", 1, 0);
    fault("person", 1, 6);
    fault("person 3", 1, 8);
    fault("person 3 1 0 2", 1, 14);
    fault("person 3 1 0 2  ", 1, 16);
    fault("person;", 1, 6);
    fault("person x 1 1 1;", 1, 7);
    fault("person 0 1 1 1;", 2, 7);
    fault("person 21 1 1 1;", 2, 7);
    fault("person 1 10 1 1;", 2, 9);
    fault("person 1 9 31 1;", 2, 11);
    fault("person 1 9 30 10;", 2, 14);
    fault("person 99999 x;", 2, 7);
    fault("person 00001 1 1 1;", 2, 7);
    fault("person 4294967297 1 1 1;", 2, 7);
    fault("person 1 1 1;", 1, 12);
    fault("person 1 1 1 1 1;", 1, 15);
    fault("person 1 1 1 1 12345;", 1, 15);
    fault("person 1\t1 1 1;", 1, 8);
    fault("person 1\r1 1 1;", 1, 8);
    fault("person 1 1 1 1;;", 1, 15);
    fault("person 1 1 1 1; x", 1, 16);
    good("");
    good(" \n ");
    good("person 1 0 0 0;");
    good("whistler 20 9 30 9;");
    good("\nperson\n0020 0009 0030 0009\n;\n");
    good("person1 1 1 1;tune1of0;");
    good("tune 0;tune 9;");
    fault("tune;", 1, 4);
    fault("tune 10;", 2, 5);
    fault("tune 1 on 0;", 1, 7);
    fault("tune 1 1;", 1, 7);
    fault("tune 1 of;", 1, 9);
    fault("tune 1 of", 1, 9);
    fault("tune 1 of x;", 1, 10);
    fault("tune 1 of 0;", 3, 10);
    fault("tune 1 of 9999;", 3, 10);
    fault("tune 1 of 00000;", 2, 10);
    fault("tune 1 of 0;person 1 1 1 1;", 3, 10);
    fault("person 1 1 1 1;tune 1 of 1;", 3, 25);
    good("person 1 1 1 1;tune 1 of 0;");
    good("earshot 0;");
    good("earshot 30;");
    fault("earshot 31;", 2, 8);
    fault("earshot;", 1, 7);
    fault("earshot 30;earshot 2;", 5, 11);
    fault("earshot 30;earshot x;", 5, 11);
    String eight = "person 1 1 1 1;".repeat(4) + "whistler 1 1 1 1;".repeat(4);
    good(eight + "tune 1 of 7;");
    fault(eight + "person 1 1 1 1;", 2, 128);
    fault(eight + "whistler x", 2, 128);
    fault(eight + "tune 1 of 8;", 3, 138);
    good("tune 1;".repeat(6));
    fault("tune 1;".repeat(7), 2, 42);
    fault("tune 1;".repeat(6) + "tune", 2, 42);
  }

  private static void faultsOfRules() {
    fault("stops;", 1, 5);
    fault("stops", 1, 5);
    fault("stops 1", 1, 7);
    fault("stops 1;stops 2;", 5, 8);
    fault("joins 1;joins 2;", 5, 8);
    good("stops 1;joins 2;");
    fault("stops x;", 3, 6);
    fault("stops z;", 3, 6);
    fault("stops a;", 3, 6);
    fault("stops far;", 3, 6);
    fault("joins hummed;", 3, 6);
    fault("joins person;", 3, 6);
    good("stops breath+air+with+tunes+hour+hummed;");
    good("joins breath+air+with+tunes+hour+far;");
    fault("stops or;", 3, 6);
    fault("stops 1 + not 2;", 3, 10);
    fault("stops 1 < not 2;", 3, 10);
    good("stops 1 and not 2 or not 3;");
    good("stops 9999;");
    good("stops 0009;");
    fault("stops 10000;", 2, 6);
    fault("stops 00001;", 2, 6);
    fault("stops 1 12345;", 1, 8);
    fault("stops 1 x;", 1, 8);
    fault("stops 1 not 1;", 1, 8);
    fault("stops 1<2<3;", 1, 9);
    fault("stops 1=2=3;", 1, 9);
    good("stops (1<2)<3;");
    fault("stops (1;", 1, 8);
    fault("stops 1);", 1, 7);
    fault("stops ();", 1, 7);
    fault("stops -1;", 1, 6);
    fault("stops 1+;", 1, 8);
    fault("stops 1 and;", 1, 11);
    fault("stops 1 and or 2;", 3, 12);
    fault("stops not;", 1, 9);
    fault("stops not or 1;", 3, 10);
    fault("stops 1 > 2;", 1, 8);
    good("stops (((((1)))));");
    fault("stops ((((((1))))));", 2, 12);
    fault("stops ((((((x", 2, 12);
    fault("stops ((((((not 1", 2, 12);
    fault("stops (((((((", 2, 12);
    fault("stops ((((((10000", 2, 12);
    fault("stops (((((()", 1, 12);
    fault("stops ((((((;", 1, 12);
    fault("stops ((((((", 1, 12);
    fault("stops 1+(((((1+(2))))));", 2, 16);
    good("stops (((((1)))))+(((((2)))));");
    good("stops not not not not not not 1;");
    fault("stops not not not not not not not 1;", 2, 30);
    good("stops not not not not not not (not not not not not not 1) and not 2;");
    fault("stops 1 and not not not not not not not", 2, 36);
  }

  // ---- the rules' language

  /** STOPS of one whose BREATH is 20, who hums a TUNE of AIR 5, OWNS it, and has hummed 1 HOUR; the HOUR is 1. */
  private static boolean stops(String expr) {
    return Check.told("person 20 0 0 0;tune 5 of 0;stops " + expr + ";").then(0, 2, 0) == -1;
  }

  /** JOINS of one whose BREATH is 19 and who stands 3 from one who hums; the HOUR is 0. */
  private static boolean joins(String expr) {
    return Check.told("person 20 0 0 0;person 19 0 3 0;tune 5 of 0;joins " + expr + ";").then(1, 1, 0) == 0;
  }

  private static void value(String expr, int want) {
    String number = want < 0 ? "0-" + -want : Integer.toString(want);
    due(expr + " is " + want, () -> stops("(" + expr + ")=(" + number + ")"), true);
    due(expr + " is no other", () -> stops("(" + expr + ")=(" + number + "+1)"), false);
  }

  private static void rules() {
    value("breath", 20);
    value("air", 5);
    value("with", 0);
    value("tunes", 1);
    value("hour", 1);
    value("hummed", 1);
    value("7-2-1", 4);
    value("7-2*3", 1);
    value("(7-2)*3", 15);
    value("2+3*4-5", 9);
    value("9/2*2", 8);
    value("9/2", 4);
    value("(0-9)/2", -4);
    value("9/(0-2)", -4);
    value("9/0", 0);
    value("(5-5)/(5-5)", 0);
    value("1<2", 1);
    value("2<2", 0);
    value("3<2", 0);
    value("2=2", 1);
    value("2=3", 0);
    value("0-1<0", 1);
    value("1+1<3", 1);
    value("not 0", 1);
    value("not 7", 0);
    value("not not 7", 1);
    value("not 1<2", 0);
    value("not 2<1", 1);
    value("7 and 5", 1);
    value("7 and 0", 0);
    value("0 and 7", 0);
    value("7 or 5", 1);
    value("0 or 7", 1);
    value("0 or 0", 0);
    value("(0-1) and 1", 1);
    value("1 or 1 and 0", 1);
    value("0 and 0 or 1", 1);
    value("not 0 and 0", 0);
    value("not 1 or 1", 1);
    value("1 and 1 and 0", 0);
    value("5", 5);
    value("not (0-3)", 0);
    value("9999*9999*9999/9999/1000", -102);
    value("(0-9999*9999*22)/9999/100", 9999 * 9999 * -22 / 9999 / 100);
    due("wraps", () -> stops("9999*9999*9999*9999*9999*9999*9999 - " + "9999*9999*9999*9999*9999*9999*9999"), false);
    due("below 0 stops nobody", () -> stops("0-1"), false);
    due("0 stops nobody", () -> stops("0"), false);
    due("above 0 stops", () -> stops("2"), true);
    due("breath", () -> joins("breath=19"), true);
    due("air", () -> joins("air=5"), true);
    due("with", () -> joins("with=1"), true);
    due("tunes", () -> joins("tunes=0"), true);
    due("hour", () -> joins("hour=0"), true);
    due("far", () -> joins("far=3"), true);
    due("0 joins not", () -> joins("0"), false);
    due("below 0 joins not", () -> joins("0-2"), false);
    due("9999 joins", () -> joins("9999"), true);
    // The nearest one counts for FAR, even if only one farther off is in EARSHOT of the nearest.
    HummedTunes x = Check.told("person 9 0 0 0;person 9 0 9 0;person 9 0 4 0;tune 1 of 0;tune 2 of 1;joins (far=4) + (far=5)*(with=1);");
    due("the least tune that may be joined", () -> x.then(2, 1, 0), 0);
    HummedTunes y = Check.told("person 9 0 0 0;person 9 0 9 0;person 9 0 4 0;tune 1 of 0;tune 2 of 1;joins far=5;");
    due("another, if the least may not", () -> y.then(2, 1, 0), 1);
    // All are asked before any one stops: WITH is 1 for both.
    HummedTunes z = Check.told("person 9 0 0 0;person 9 0 1 0;tune 1 of 0;joins 1;stops with and hummed=2;");
    due("both stop at once", () -> z.whose(0, 3, 0), -1);
    due("none hums", () -> z.whose(0, 3, 1), 0);
  }

  // ---- 5 to 7

  private static void counts() {
    HummedTunes x = Check.told(THREE);
    due("hours", () -> x.hours(3), 3);
    due("refused act", () -> x.hours(0), -1);
    due("refused sight", () -> x.see(0, 0, 0), -1);
    due("refused sight", () -> x.see(0, 3, 1), -1);
    due("seen", () -> x.see(0, 0, 1), 1);
    Check.feed(x, "x");
    // Earshot 5, places 0, 4, 9; the whistler hears all.
    int[] want = {3, 3, 3, 5, 3, 4, 1, 1, 3, 1, 1, 20, 0, 1, 2};
    for (int what = 0; what < want.length; what++) {
      int w = what;
      due("count(" + w + ")", () -> x.count(w), want[w]);
    }
    Check.missing("count(15)", () -> x.count(15));
    Check.missing("count(-1)", () -> x.count(-1));
    HummedTunes far = Check.told("earshot 2;person 1 0 0 0;person 1 0 2 0;whistler 1 0 6 0;");
    due("parts: to and fro", () -> far.count(6), 2);
    due("all hear the middle one", () -> far.count(7), 2);
    HummedTunes apart = Check.told("person 1 0 0 0;person 1 0 30 0;");
    due("parts", () -> apart.count(6), 2);
    due("all hear: both", () -> apart.count(7), 3);
    HummedTunes like = Check.told("person 1 0 9 0;person 1 0 8 0;person 1 0 7 0;");
    due("of as few the least", () -> like.count(7), 1);
    HummedTunes ends = Check.told("earshot 1;person 1 0 0 0;person 1 0 5 0;person 1 0 1 0;person 1 0 6 0;");
    due("one of each end", () -> ends.count(7), 3);
    HummedTunes alone = Check.told("person 1 0 0 0;");
    due("one part", () -> alone.count(6), 1);
    due("oneself", () -> alone.count(7), 1);
  }

  private static void people() {
    HummedTunes x = Check.told(THREE);
    x.hours(1);
    int[][] want = {{3, 1, 0, 2, 0, 1, 1, 1, 2, 0}, {5, 2, 4, 0, 1, 1, 2, 1, 5, 0}, {2, 0, 9, 1, 1, 1, 0, 1, 3, 1}};
    for (int p = 0; p < 3; p++) {
      for (int what = 0; what < 10; what++) {
        int person = p;
        int w = what;
        due("person(" + p + ", " + w + ")", () -> x.person(person, w), want[p][w]);
      }
    }
    int[][] tunes = {{4, 0, 1}, {2, 1, 6}, {7, -1, 0}};
    for (int t = 0; t < 3; t++) {
      for (int what = 0; what < 3; what++) {
        int tune = t;
        int w = what;
        due("tune(" + t + ", " + w + ")", () -> x.tune(tune, w), tunes[t][w]);
      }
    }
    Check.missing("person(3, 0)", () -> x.person(3, 0));
    Check.missing("person(-1, 0)", () -> x.person(-1, 0));
    Check.missing("person(0, 10)", () -> x.person(0, 10));
    Check.missing("person(0, -1)", () -> x.person(0, -1));
    Check.missing("tune(3, 0)", () -> x.tune(3, 0));
    Check.missing("tune(-1, 0)", () -> x.tune(-1, 0));
    Check.missing("tune(0, 3)", () -> x.tune(0, 3));
    Check.missing("tune(0, -1)", () -> x.tune(0, -1));
    HummedTunes edge = Check.told("earshot 3;person 1 0 0 0;whistler 1 0 6 0;person 1 0 3 0;whistler 1 0 13 0;");
    due("just in earshot", () -> edge.person(0, 8), 4);
    due("a whistler, twice", () -> edge.person(1, 8), 5);
    due("both sides", () -> edge.person(2, 8), 3);
    due("just out of it", () -> edge.person(3, 8), 0);
    HummedTunes same = Check.told("earshot 0;person 1 0 4 0;person 1 0 4 0;whistler 1 0 5 0;");
    due("earshot 0", () -> same.person(0, 8), 2);
    due("twice 0", () -> same.person(2, 8), 0);
  }

  // ---- an HOUR

  private static void rested(HummedTunes x, int... wants) {
    for (int i = 0; i < wants.length; i++) {
      int want = wants[i];
      due("rested behind hour " + x.count(2), () -> x.person(0, 7), want);
      x.hours(1);
    }
  }

  private static void hour() {
    rested(Check.told(ONE), 1, 1, 1, 1, 0, 1, 1, 1, 1, 0, 1);
    rested(Check.told("person 1 0 4 1;tune 5 of 0;"), 1, 1, 1, 1);
    rested(Check.told("person 1 3 4 1;tune 5 of 0;"), 1, 1, 0, 0, 1, 1, 0, 0, 1);
    HummedTunes x = Check.told("person 2 0 0 0;person 2 0 1 0;tune 3 of 1;joins 1;");
    // The second one begins, the first one joins an hour on, and is the last to stop.
    int[] byHour = {0, 2, 3, 1, 0, 3, 3, 0};
    for (int h = 0; h < byHour.length; h++) {
      int hour = h;
      due("who hums behind " + h, () -> x.whose(0, hour, 1), byHour[h]);
    }
    due("still the first owner's", () -> x.whose(0, 3, 0), 1);
    due("the last one's", () -> x.whose(0, 4, 0), 0);
    due("both at once: nobody's", () -> x.whose(0, 7, 0), -1);
    due("silent for good", () -> x.whose(0, 60, 1), 0);
    // Two tunes of one owner: the least is begun; the other one when the first is hummed by another one.
    HummedTunes y = Check.told("person 2 0 0 0;person 9 0 1 0;tune 1;tune 2 of 0;tune 3 of 0;joins air=2;");
    due("the least that one owns", () -> y.then(0, 1, 0), 1);
    due("joined", () -> y.then(1, 1, 0), 1);
    due("stopped", () -> y.then(0, 3, 0), -1);
    due("the next one, as the first is hummed", () -> y.then(0, 4, 0), 2);
    due("stops by breath even if the rule gives 0", () -> Check.told("person 2 0 0 0;tune 1 of 0;stops 0;").then(0, 3, 0), -1);
    // One owns no silent tune: one joins even one's own tune that another hums.
    HummedTunes z = Check.told("person 1 0 0 0;person 9 0 1 0;tune 2 of 0;joins 1;");
    due("joins one's own", () -> z.whose(0, 3, 1), 3);
    // Idle hours behind a stop: one who stopped in an hour neither begins nor joins in it.
    due("none in the same hour", () -> Check.told("person 1 0 0 0;tune 1 of 0;").then(0, 2, 0), -1);
    due("but in the next one", () -> Check.told("person 1 0 0 0;tune 1 of 0;").then(0, 3, 0), 0);
    // TUNES in STOPS is asked ahead of what this hour settles, HOUR is as at its beginning.
    HummedTunes w = Check.told("person 9 0 0 0;tune 1 of 0;stops hour=3;");
    due("hums at the end of the third", () -> w.then(0, 3, 0), 0);
    due("stops in the fourth", () -> w.then(0, 4, 0), -1);
    due("without JOINS nobody joins", () -> Check.told("person 9 0 0 0;person 9 0 0 0;tune 1 of 0;").whose(0, 5, 1), 1);
    due("out of earshot nobody joins", () -> Check.told("person 9 0 0 0;person 9 0 6 0;tune 1 of 0;joins 1;").whose(0, 5, 1), 1);
    due("a whistler does", () -> Check.told("person 9 0 0 0;whistler 9 0 6 0;tune 1 of 0;joins 1;").whose(0, 5, 1), 3);
    due("one by one along the hills",
        () -> Check.told("person 9 0 0 0;person 9 0 5 0;person 9 0 10 0;tune 1 of 0;joins 1;").whose(0, 1, 1), 7);
    due("one who is ahead hears it an hour later",
        () -> Check.told("person 9 0 10 0;person 9 0 5 0;person 9 0 0 0;tune 1 of 2;joins 1;").whose(0, 2, 1), 6);
  }

  // ---- 8 to 13

  private static void hoursActs() {
    HummedTunes x = Check.told(ONE);
    due("hours(0)", () -> x.hours(0), -1);
    due("hours(-1)", () -> x.hours(-1), -1);
    due("hours(21)", () -> x.hours(21), -1);
    due("hours(largest)", () -> x.hours(Integer.MAX_VALUE), -1);
    due("STATUS 1", () -> x.count(13), 4);
    due("no act", () -> x.count(9), 0);
    due("hours(1)", () -> x.hours(1), 1);
    due("hours(20)", () -> x.hours(20), 21);
    due("two acts", () -> x.count(9), 2);
    for (int i = 0; i < 48; i++) {
      int want = 41 + 20 * i;
      due("hours", () -> x.hours(20), want);
    }
    due("above 999", () -> x.hours(19), -1);
    due("just 999", () -> x.hours(18), 999);
    due("1000", () -> x.hours(1), -1);
    due("foreseen all the same", () -> x.gets(0, 0), 0);
    due("STATUS 1", () -> x.count(13), 6);
    due("acts", () -> x.count(9), 40);
  }

  private static void hushing() {
    HummedTunes x = Check.told(ONE);
    due("hums nothing", () -> x.hush(0), -1);
    due("STATUS 1", () -> x.count(13), 1);
    Check.missing("hush(1)", () -> x.hush(1));
    Check.missing("hush(-1)", () -> x.hush(-1));
    x.hours(2);
    due("hush", () -> x.hush(0), 0);
    due("hums no more", () -> x.person(0, 4), -1);
    due("for no hours", () -> x.person(0, 5), 0);
    due("not rested", () -> x.person(0, 7), 0);
    due("owns it", () -> x.tune(0, 1), 0);
    due("rests one hour", () -> x.then(0, 2, 0), -1);
    due("begins in the third", () -> x.then(0, 3, 0), 0);
    HummedTunes y = Check.told("person 9 0 0 0;person 9 0 1 0;tune 5 of 0;joins 1;");
    y.hours(1);
    due("one of two", () -> y.hush(0), 0);
    due("the other one hums", () -> y.tune(0, 2), 2);
    due("it stays as it was", () -> y.tune(0, 1), 0);
    due("the last one", () -> y.hush(1), 0);
    due("owns it", () -> y.tune(0, 1), 1);
    due("rested at once without REST", () -> y.person(1, 7), 1);
    due("begins in the hour that comes", () -> y.whose(0, 1, 1), 2);
    due("for an hour", () -> y.then(1, 1, 1), 1);
    due("acts", () -> y.count(9), 3);
    HummedTunes z = Check.told("person 9 1 0 0;tune 5 of 0;");
    z.hours(1);
    z.hush(0);
    due("REST 1 is not over in the hour that comes", () -> z.then(0, 1, 0), -1);
    due("but then", () -> z.then(0, 2, 0), 0);
  }

  private static void coughs() {
    HummedTunes x = Check.told("person 9 0 0 0;person 9 2 1 0;person 9 0 20 0;tune 5 of 0;tune 6 of 2;joins 1;");
    due("nobody hums it", () -> x.cough(0), -1);
    due("STATUS 1", () -> x.count(13), 1);
    Check.missing("cough(2)", () -> x.cough(2));
    Check.missing("cough(-1)", () -> x.cough(-1));
    x.hours(2);
    due("two", () -> x.cough(0), 3);
    due("nobody's", () -> x.tune(0, 1), -1);
    due("none hums it", () -> x.tune(0, 2), 0);
    due("the other tune goes on", () -> x.tune(1, 2), 4);
    due("rested, without REST", () -> x.person(0, 7), 1);
    due("not rested", () -> x.person(1, 7), 0);
    due("one", () -> x.cough(1), 4);
    due("the one's", () -> x.tune(1, 1), 2);
    due("begins in the hour that comes", () -> x.whose(1, 1, 1), 4);
    due("acts", () -> x.count(9), 3);
    HummedTunes y = Check.told("person 1 0 0 0;person 9 0 1 0;tune 5 of 0;joins 1;");
    y.hours(2);
    due("one who isn't the owner", () -> y.cough(0), 2);
    due("owns it", () -> y.tune(0, 1), 1);
  }

  private static void sales() {
    HummedTunes x = Check.told("person 1 0 0 9;person 1 0 20 1;person 1 0 20 0;tune 1 of 0;tune 2;");
    due("nobody owns it", () -> x.sell(1, 1), -1);
    due("no cow", () -> x.sell(0, 2), -1);
    due("the buyer's own", () -> x.sell(0, 0), -1);
    due("STATUS 1", () -> x.count(13), 3);
    due("sold", () -> x.sell(0, 1), 0);
    due("whose", () -> x.tune(0, 1), 1);
    due("above 9", () -> x.person(0, 3), 10);
    due("none left", () -> x.person(1, 3), 0);
    due("all cows", () -> x.count(8), 10);
    due("sold back", () -> x.sell(0, 0), 1);
    due("9 again", () -> x.person(0, 3), 9);
    due("1 again", () -> x.person(1, 3), 1);
    x.hours(1);
    due("somebody hums it", () -> x.sell(0, 1), -1);
    Check.missing("sell(2, 0)", () -> x.sell(2, 0));
    Check.missing("sell(-1, 0)", () -> x.sell(-1, 0));
    Check.missing("sell(0, 3)", () -> x.sell(0, 3));
    Check.missing("sell(1, 3)", () -> x.sell(1, 3));
    Check.missing("sell(0, -1)", () -> x.sell(0, -1));
    due("STATUS 1", () -> x.count(13), 4);
    due("acts", () -> x.count(9), 3);
    HummedTunes y = Check.told("person 1 0 0 0;person 9 0 20 1;tune 1 of 0;");
    y.sell(0, 1);
    due("the buyer begins it", () -> y.whose(0, 1, 1), 2);
  }

  private static void going() {
    HummedTunes x = Check.told(THREE);
    due("go", () -> x.go(0, 30), 0);
    due("there", () -> x.go(0, 30), -1);
    due("31", () -> x.go(0, 31), -1);
    due("-1", () -> x.go(0, -1), -1);
    due("STATUS 1", () -> x.count(13), 3);
    due("back", () -> x.go(0, 0), 30);
    due("acts", () -> x.count(9), 2);
    Check.missing("go(3, 0)", () -> x.go(3, 0));
    Check.missing("go(-1, 31)", () -> x.go(-1, 31));
    due("the first", () -> x.go(1, 20), 4);
    due("who hears whom", () -> x.person(0, 8), 0);
    due("the whistler", () -> x.person(2, 8), 1);
    due("parts", () -> x.count(6), 3);
    due("nobody joins there", () -> x.whose(1, 2, 1), 2);
  }

  private static void undoing() {
    HummedTunes x = Check.told(THREE);
    String before = state(x);
    x.hours(3);
    String first = state(x);
    x.hush(1);
    String second = state(x);
    x.sell(1, 2);
    String third = state(x);
    x.cough(0);
    String fourth = state(x);
    x.go(2, 1);
    String fifth = state(x);
    x.hours(5);
    due("refused acts are none", () -> x.hours(0), -1);
    String[] want = {fifth, fourth, third, second, first, before};
    for (int i = 0; i < want.length; i++) {
      int left = 5 - i;
      due("undo", () -> x.undo(), left);
      Check.same("state with " + left + " left", state(x), want[i]);
    }
    due("none is left", () -> x.undo(), -1);
    due("STATUS 1 stays", () -> x.count(13), 1);
    for (int i = 1; i <= 45; i++) {
      int place = i % 31;
      due("go", () -> x.go(0, place), (i - 1) % 31);
    }
    due("40 are kept", () -> x.count(9), 40);
    for (int i = 39; i >= 0; i--) {
      int left = i;
      due("undo", () -> x.undo(), left);
    }
    due("no more", () -> x.undo(), -1);
    due("the fifth stays", () -> x.person(0, 2), 5);
    due("an act behind an undone one", () -> x.go(0, 6), 5);
    due("one is kept", () -> x.count(9), 1);
  }

  private static String state(HummedTunes x) {
    StringBuilder b = new StringBuilder("hour " + x.count(2));
    for (int p = 0; p < x.count(0); p++) {
      for (int what = 0; what < 10; what++) {
        b.append(' ').append(x.person(p, what));
      }
    }
    for (int t = 0; t < x.count(1); t++) {
      b.append(" tune ").append(x.tune(t, 1)).append(' ').append(x.tune(t, 2));
    }
    for (int h = 0; h <= 12; h++) {
      b.append(' ').append(x.count(0) > 0 ? x.then(0, h, 0) : 0).append(x.later(h, 0));
    }
    return b.toString();
  }

  // ---- 14 to 19

  private static void foreseeing() {
    HummedTunes x = Check.told(ONE);
    int[] hums = {-1, 0, 0, 0, -1, -1, 0, 0, 0, -1, -1, 0};
    int[] hummed = {0, 1, 2, 3, 0, 0, 1, 2, 3, 0, 0, 1};
    for (int h = 0; h < hums.length; h++) {
      int hours = h;
      due("then(0, " + h + ", 0)", () -> x.then(0, hours, 0), hums[h]);
      due("then(0, " + h + ", 1)", () -> x.then(0, hours, 1), hummed[h]);
      due("then(0, " + h + ", 2)", () -> x.then(0, hours, 2), 1);
    }
    due("nothing goes by", () -> x.count(2), 0);
    due("no act", () -> x.count(9), 0);
    due("60", () -> x.then(0, 60, 1), 0);
    due("59", () -> x.then(0, 59, 1), 0);
    due("58", () -> x.then(0, 58, 1), 3);
    x.hours(2);
    due("from now on", () -> x.then(0, 1, 1), 3);
    HummedTunes y = Check.told(TWO);
    due("two tunes owned", () -> Check.told("person 1 0 0 0;tune 1 of 0;tune 2;tune 3 of 0;").then(0, 0, 2), 2);
    due("lost", () -> y.then(0, 3, 2), 0);
    int[] owner = {0, 0, 0, -1, -1};
    int[] who = {0, 3, 3, 0, 0};
    for (int h = 0; h < owner.length; h++) {
      int hours = h;
      due("whose(0, " + h + ", 0)", () -> y.whose(0, hours, 0), owner[h]);
      due("whose(0, " + h + ", 1)", () -> y.whose(0, hours, 1), who[h]);
    }
  }

  private static void ahead() {
    HummedTunes x = Check.told("person 2 0 0 0;person 2 0 1 0;tune 3 of 1;joins 1;");
    due("owned now", () -> x.gets(1, 0), 0);
    due("first owned", () -> x.gets(0, 0), 4);
    due("never", () -> Check.told(TWO).gets(1, 0), -1);
    due("silent in one", () -> x.silent(0, 1), 0);
    due("silent in four", () -> x.silent(0, 4), 1);
    due("silent in seven", () -> x.silent(0, 7), 2);
    due("silent for good", () -> x.silent(0, 60), 55);
    due("loudest", () -> x.loudest(1), 1);
    due("two hum at the second", () -> x.loudest(60), 2);
    due("nobody: the first", () -> Check.told("person 1 0 0 0;").loudest(9), 1);
    due("richest now", () -> x.later(0, 0), 1);
    due("richest", () -> x.later(4, 0), 0);
    due("nobody owns any: they are alike", () -> x.later(7, 0), 0);
    due("alike from the start", () -> Check.told("person 1 0 0 0;person 1 0 30 0;tune 1;").later(0, 0), 0);
    due("without tunes", () -> Check.told("person 1 0 0 0;person 1 0 30 0;").later(60, 0), 0);
    due("without people", () -> Check.told("tune 1;").later(60, 0), -1);
    due("a new object", () -> new HummedTunes().later(0, 0), -1);
    due("of like ones the least", () -> Check.told("person 1 0 0 0;person 1 0 30 0;person 1 0 15 0;tune 1 of 2;tune 1 of 1;").later(0, 0), 1);
    due("who owns most", () -> Check.told("person 1 0 0 0;person 1 0 30 0;tune 1 of 0;tune 1 of 1;tune 1 of 1;").later(0, 0), 1);
    due("taken in none", () -> x.later(0, 1), 0);
    due("taken in three", () -> x.later(3, 1), 0);
    due("to another one", () -> x.later(4, 1), 1);
    due("to nobody", () -> x.later(7, 1), 2);
    due("no more", () -> x.later(60, 1), 2);
    due("to the same one is none", () -> Check.told(ONE).later(60, 1), 0);
    due("sold ahead is none", () -> {
      HummedTunes y = Check.told("person 9 0 0 0;person 9 0 20 1;tune 1 of 0;");
      y.sell(0, 1);
      return y.later(9, 1);
    }, 0);
    // The first one hums again from the 43rd hour on; the second one joins in the 58th.
    HummedTunes last = Check.told("person 20 0 0 0;person 20 0 1 0;tune 3 of 0;stops hour=59;joins hour=57;");
    due("both at once behind 60", () -> last.whose(0, 60, 0), -1);
    due("not behind 59", () -> last.whose(0, 59, 0), 0);
    HummedTunes sixty = Check.told("person 20 0 0 0;person 19 0 1 0;tune 3 of 0;stops (hour=58)*(breath=20)+(hour=59);joins hour=57;");
    due("the 60th hour is asked", () -> sixty.gets(1, 0), 60);
    HummedTunes later = Check.told("person 20 0 0 0;person 19 0 1 0;tune 3 of 0;stops (hour=59)*(breath=20)+(hour=60);joins hour=58;");
    due("the 61st is not", () -> later.gets(1, 0), -1);
  }

  // ---- 20, 21

  private static void hearing() {
    HummedTunes x = Check.told("earshot 2;person 1 0 0 0;person 1 0 2 0;whistler 1 0 6 0;");
    int[][] want = {{0, 1, 2}, {1, 0, 1}, {-1, -1, 0}};
    for (int a = 0; a < 3; a++) {
      for (int b = 0; b < 3; b++) {
        int from = a;
        int to = b;
        due("hums(" + a + ", " + b + ")", () -> x.hums(from, to), want[a][b]);
      }
    }
    due("farthest(0)", () -> x.farthest(0), 2);
    due("farthest(1): of like ones the least", () -> x.farthest(1), 0);
    due("farthest(2): none", () -> x.farthest(2), -1);
    due("alone", () -> Check.told("person 1 0 0 0;").farthest(0), -1);
    HummedTunes row = Check.told("earshot 1;person 1 0 7 0;person 1 0 6 0;person 1 0 5 0;person 1 0 4 0;person 1 0 3 0;person 1 0 2 0;person 1 0 1 0;person 1 0 0 0;");
    due("seven hums", () -> row.hums(0, 7), 7);
    due("and back", () -> row.hums(7, 0), 7);
    due("the far end", () -> row.farthest(2), 7);
    due("the other end", () -> row.farthest(5), 0);
    Check.missing("hums(3, 0)", () -> x.hums(3, 0));
    Check.missing("hums(0, 3)", () -> x.hums(0, 3));
    Check.missing("hums(-1, 0)", () -> x.hums(-1, 0));
    Check.missing("hums(0, -1)", () -> x.hums(0, -1));
    Check.missing("farthest(3)", () -> x.farthest(3));
    Check.missing("farthest(-1)", () -> x.farthest(-1));
  }

  // ---- 22 to 25

  private static void advice() {
    HummedTunes x = Check.told(TWO);
    due("any breath", () -> x.toBreathe(0, 0, 1), 1);
    due("longer than the other one", () -> x.toBreathe(0, 0, 3), 3);
    due("not yet", () -> x.toBreathe(1, 0, 3), -1);
    due("an hour on", () -> x.toBreathe(1, 0, 4), 3);
    due("the breath stays", () -> x.person(1, 0), 2);
    HummedTunes y = Check.told("person 5 0 0 0;person 3 0 1 0;tune 1 of 0;joins 1;");
    y.hours(2);
    // With 1 or 2 one has hummed as long already and stops now; with 3 both stop at once.
    due("who has hummed longer stops", () -> y.toBreathe(0, 0, 2), 4);
    due("breath in the rule", () -> Check.told("person 20 0 0 0;person 1 0 1 0;tune 1 of 0;joins breath=7;").toBreathe(1, 0, 21), -1);
    // The owner hums 3 hours; by the rule only one with a breath of 7 joins, and is the last.
    due("breath in the rule", () -> Check.told("person 3 9 0 0;person 1 0 1 0;tune 1 of 0;joins breath=7;").toBreathe(1, 0, 9), 7);
    HummedTunes z = Check.told(TWO);
    due("nobody hums", () -> z.toHush(0, 3), -1);
    z.hours(1);
    due("of like ones the least", () -> z.toHush(0, 2), 0);
    due("oneself", () -> z.toHush(0, 3), 0);
    due("the one who rejoins stops last", () -> z.toHush(1, 3), 1);
    due("not more than without", () -> z.toHush(0, 1), -1);
    due("who hums stays", () -> z.count(4), 3);
  }

  private static void standing() {
    HummedTunes x = Check.told("person 4 0 0 0;person 4 0 20 0;tune 3 of 1;joins 1;");
    due("where", () -> x.toStand(0, 6, 0), 15);
    due("how many", () -> x.toStand(0, 6, 1), 1);
    due("anywhere", () -> x.toStand(0, 5, 0), 0);
    due("none", () -> x.toStand(0, 5, 1), 0);
    due("the place stays", () -> x.person(0, 2), 0);
    HummedTunes y = Check.told("person 4 0 0 0;person 4 0 30 0;tune 3 of 1;joins (far=0);");
    due("at the end", () -> y.toStand(0, 6, 0), 30);
    HummedTunes z = Check.told("person 2 0 0 0;person 4 0 1 0;tune 3 of 0;tune 1 of 0;joins 1;");
    // The other one takes the tune only where one is in earshot of it.
    due("away from the other one", () -> z.toStand(0, 5, 0), 7);
    due("both stay", () -> z.toStand(0, 5, 1), 2);
  }

  private static void leaving() {
    HummedTunes x = Check.told(TWO);
    due("without the other one", () -> x.without(0, 3), 1);
    due("no more than with", () -> x.without(0, 2), -1);
    due("none", () -> x.without(1, 3), -1);
    HummedTunes three = Check.told(THREE);
    due("the whistler", () -> three.without(1, 6), 2);
    due("not oneself", () -> Check.told("person 1 0 0 0;tune 1;").without(0, 9), -1);
    // Who leaves is hushed now: the last one left hums alone, and whoever left does not begin again.
    HummedTunes y = Check.told("person 3 9 0 0;person 9 9 1 0;tune 1 of 0;joins 1;");
    y.hours(1);
    due("the other one takes it", () -> y.whose(0, 20, 0), 1);
    due("unless that one leaves", () -> y.without(0, 20), 1);
    due("nobody has left", () -> y.count(4), 3);
    // A leaver who hums alone owns the tune by it, so that nobody else gets it.
    HummedTunes z = Check.told("person 3 0 0 0;person 9 0 30 0;tune 1 of 1;");
    z.hours(1);
    due("the leaver keeps it", () -> z.without(0, 20), -1);
    // The third one joins only where the second one hums, and stops together with the first one.
    HummedTunes like = Check.told("person 2 0 0 0;person 1 0 1 0;person 2 0 2 0;tune 3 of 0;joins (breath=1)*(with=1)+(breath=2)*(with=2);");
    due("nobody's with all of them", () -> like.whose(0, 3, 0), -1);
    due("of like ones the least", () -> like.without(0, 3), 1);
  }

  // ---- 26

  private static void rounds() {
    HummedTunes x = Check.told("person 1 0 0 0;person 1 0 10 0;person 1 0 4 0;tune 1 of 1;tune 1 of 0;tune 1 of 2;tune 1;tune 1 of 0;");
    int[] want = {10, 0, 2, 1, 4};
    for (int i = -1; i < 4; i++) {
      int at = i;
      due("round(" + i + ")", () -> x.round(at), want[i + 1]);
    }
    Check.missing("round(4)", () -> x.round(4));
    Check.missing("round(-2)", () -> x.round(-2));
    HummedTunes none = Check.told("person 1 0 0 0;tune 1;");
    due("none owned", () -> none.round(-1), 0);
    Check.missing("none owned", () -> none.round(0));
    HummedTunes one = Check.told("person 1 0 9 0;tune 1;tune 1 of 0;");
    due("one: no way", () -> one.round(-1), 0);
    due("one", () -> one.round(0), 1);
    Check.missing("only one", () -> one.round(1));
    HummedTunes y = Check.told("person 1 0 5 0;person 1 0 0 0;person 1 0 9 0;tune 1 of 0;tune 1 of 1;tune 1 of 2;");
    due("from an end", () -> y.round(-1), 9);
    int[] row = {1, 0, 2};
    for (int i = 0; i < 3; i++) {
      int at = i;
      due("round(" + i + ")", () -> y.round(at), row[i]);
    }
    y.go(1, 30);
    due("as they stand now", () -> y.round(-1), 25);
    due("the nearest end first", () -> y.round(0), 0);
    HummedTunes six = Check.told("person 1 0 3 0;tune 1 of 0;tune 1 of 0;tune 1 of 0;tune 1 of 0;tune 1 of 0;tune 1 of 0;");
    due("all at one place", () -> six.round(-1), 0);
    due("in their order", () -> six.round(5), 5);
  }

  // ---- 27 to 30

  private static void seeing() {
    HummedTunes x = Check.told(ONE);
    due("hours 0", () -> x.see(0, 0, 0), -1);
    due("hours 21", () -> x.see(0, 0, 21), -1);
    due("tune 1", () -> x.see(0, 1, 1), -1);
    due("tune -2", () -> x.see(0, -2, 1), -1);
    due("STATUS 2", () -> x.count(14), 4);
    Check.missing("see(1, 0, 1)", () -> x.see(1, 0, 1));
    Check.missing("see(-1, 0, 0)", () -> x.see(-1, 0, 0));
    due("no STATUS for that", () -> x.count(14), 4);
    for (int i = 1; i <= 8; i++) {
      int many = i;
      due("see", () -> x.see(0, many % 2 - 1, many == 8 ? 20 : many), many);
    }
    due("the ninth", () -> x.see(0, 0, 1), -1);
    due("STATUS 2", () -> x.count(14), 5);
    due("seen", () -> x.count(10), 8);
    x.forget();
    due("forgotten", () -> x.count(10), 0);
    due("seen anew", () -> x.see(0, 0, 1), 1);
    due("no act", () -> x.count(9), 0);
    due("nothing changes by forgetting but that", () -> x.count(14), 5);
  }

  private static void deepAndLook() {
    HummedTunes x = Check.told(ONE);
    deep(x, 19, 1, 1);
    due("see", () -> x.see(0, -1, 3), 1);
    // By 1 and 2 one is silent at the third hour's end; behind five by 1 too, by 2 one hums again.
    deep(x, 2, 1, 0);
    look(x, 0, 2);
    due("see", () -> x.see(0, 0, 4), 2);
    deep(x, 1, 1, 0);
    look(x, 0, 1);
    due("see", () -> x.see(0, -1, 1), 3);
    deep(x, 0, -1, 0);
    look(x, -1, 0);
    x.forget();
    due("see", () -> x.see(0, 0, 20), 1);
    // From now on: by breath b one hums b hours of each b + 2, so that by 3 one is silent then.
    int many = 0;
    int first = 0;
    for (int b = 20; b >= 1; b--) {
      if (b != 3 && 19 % (b + 2) < b) {
        many++;
        first = b;
      }
    }
    deep(x, many, first, 0);
    HummedTunes y = Check.told("person 2 0 0 0;person 2 0 30 0;tune 3 of 0;tune 4 of 1;");
    y.see(1, 1, 3);
    // With 2 the second one stops in the third hour, with 1 one has begun again.
    deep(y, 19, 101, 0);
    look(y, 1, 2);
    HummedTunes z = Check.told("person 2 0 0 0;person 2 0 30 0;tune 3 of 0;tune 4 of 1;");
    deep(z, 38, 1, 1);
    look(z, 0, 2);
    due("the breath stays", () -> z.person(0, 0), 2);
    Check.missing("deep(3)", () -> x.deep(3));
    Check.missing("deep(-1)", () -> x.deep(-1));
    Check.missing("look(2)", () -> x.look(2));
    Check.missing("look(-1)", () -> x.look(-1));
  }

  private static void deep(HummedTunes x, int many, int first, int without) {
    due("deep(0)", () -> x.deep(0), many);
    due("deep(1)", () -> x.deep(1), first);
    due("deep(2)", () -> x.deep(2), without);
  }

  private static void look(HummedTunes x, int who, int many) {
    due("look(0)", () -> x.look(0), who);
    due("look(1)", () -> x.look(1), many);
  }

  // ---- 31 to 33

  private static void thunder() {
    HummedTunes x = Check.told("person 3 0 0 0;person 3 0 1 0;tune 3 of 0;joins 1;");
    x.hours(1);
    due("one hour", () -> x.thunder(0, 0, 1, 3), 7);
    due("two hours", () -> x.thunder(0, 0, 2, 3), 49);
    due("three hours", () -> x.thunder(0, 0, 3, 3), 0);
    due("the other one", () -> x.thunder(1, 0, 2, 3), 0);
    due("never", () -> x.thunder(0, 0, 2, 0), 100);
    due("always", () -> x.thunder(0, 0, 2, 10), 0);
    due("nothing changes", () -> x.count(4), 3);
    HummedTunes one = Check.told(ONE);
    due("five hours", () -> one.thunder(0, 0, 5, 4), 100000);
    // A clap ahead of the second hour finds the owner alone; the other one joins in that hour without.
    HummedTunes y = Check.told("person 4 9 0 0;person 2 9 1 0;tune 3 of 0;joins hour=1;");
    y.hours(1);
    // No clap: both hum behind 1. A clap ahead of the second hour of these: nobody has it.
    due("a clap ahead of the first saves it", () -> y.thunder(0, 0, 2, 3), 3 * 10 + 7 * 7);
    Check.unfit("hours 0", () -> x.thunder(0, 0, 0, 3));
    Check.unfit("hours 6", () -> x.thunder(0, 0, 6, 3));
    Check.unfit("tenths -1", () -> x.thunder(0, 0, 1, -1));
    Check.unfit("tenths 11", () -> x.thunder(0, 0, 1, 11));
    Check.missing("person", () -> x.thunder(2, 0, 6, 11));
    Check.missing("tune", () -> x.thunder(0, 1, 6, 11));
    Check.missing("person -1", () -> x.thunder(-1, 0, 1, 1));
    Check.missing("tune -1", () -> x.thunder(0, -1, 1, 1));
  }

  private static void games() {
    HummedTunes x = Check.told(TWO);
    due("nobody hums: one couple", () -> x.game(0, 1, 0), 1);
    due("0 and 0", () -> x.game(0, 1, 1), 0);
    x.hours(1);
    // Gains 0/0, 4/-1 if only the second one is hushed, 0/0, 0/0: it rests at 0 0 and at 1 0.
    due("two couples", () -> x.game(0, 1, 0), 2);
    due("the first", () -> x.game(0, 1, 1), 0);
    due("turned round", () -> x.game(1, 0, 0), 2);
    due("nothing changes", () -> x.count(4), 3);
    // The other one has the longer breath: by hushing oneself ahead one loses nothing, nor gains.
    HummedTunes y = Check.told("person 20 0 0 0;person 20 0 30 0;tune 3 of 0;tune 4;");
    y.hours(1);
    due("one hums: two couples", () -> y.game(0, 1, 0), 2);
    due("one hums, turned round", () -> y.game(1, 0, 0), 2);
    // The first one owns nothing unless it outlasts the second one, who began an hour ahead.
    HummedTunes z = Check.told("person 4 9 0 0;person 3 9 1 0;tune 3 of 0;joins 1;");
    z.hours(1);
    // Not hushed, the first one is the last; hushed, the second one is, unless hushed as well.
    due("the first one hums on", () -> z.game(0, 1, 1), 0);
    due("whatever the other one does", () -> z.game(0, 1, 0), 2);
    due("turned round", () -> z.game(1, 0, 0), 2);
    due("the first, turned round", () -> z.game(1, 0, 1), 0);
    HummedTunes w = Check.told("person 2 9 0 0;person 3 9 1 0;tune 3 of 0;joins 1;");
    w.hours(1);
    // The second one is the last, if not hushed; the first one may be hushed or not.
    due("two", () -> w.game(0, 1, 0), 2);
    due("first", () -> w.game(0, 1, 1), 0);
    // Each gains 4 where the other one loses, round and round: by 0 0 the second one, by 1 0 and 0 1 the first, by 1 1 the second.
    HummedTunes never = Check.told("person 3 0 2 0;person 5 2 3 0;tune 0 of 1;joins 1;");
    never.hours(4);
    due("none rests", () -> never.game(0, 1, 0), 0);
    due("no first", () -> never.game(0, 1, 1), -1);
    due("none, turned round", () -> never.game(1, 0, 0), 0);
    due("no first, turned round", () -> never.game(1, 0, 1), -1);
    // Gains -1/4, -1/4 by 0 1, 4/-1 by 1 0, 0/0 by 1 1, where both stop together in the seventh hour.
    HummedTunes both = Check.told("person 3 1 6 0;person 4 2 4 0;tune 3 of 0;joins 1;");
    both.hours(2);
    due("both hushed alone rests", () -> both.game(0, 1, 0), 1);
    due("11", () -> both.game(0, 1, 1), 11);
    due("whoever is named first, the lesser is hushed first", () -> both.game(1, 0, 0), 1);
    due("11, turned round", () -> both.game(1, 0, 1), 11);
    Check.unfit("both are one", () -> x.game(0, 0, 0));
    Check.missing("what ahead of that", () -> x.game(0, 0, 2));
    Check.missing("what -1", () -> x.game(0, 1, -1));
    Check.missing("person", () -> x.game(2, 2, 0));
    Check.missing("other", () -> x.game(0, 2, 0));
    Check.missing("person -1", () -> x.game(-1, 0, 0));
    Check.missing("other -1", () -> x.game(0, -1, 0));
  }

  private static int seed;

  private static int draw(int n) {
    seed = seed * 1103515245 + 12345;
    return (seed >> 16 & 32767) % n;
  }

  /** What YEARS tells, by acts that are done one by one. */
  private static int[] yearsByActs(HummedTunes x, int from, int n) {
    seed = from;
    int often = 0;
    for (int i = 0; i < n; i++) {
      int kind = draw(7);
      int[] before = owners(x);
      if (kind == 0) {
        x.cough(draw(x.count(1)));
      } else if (kind == 1) {
        x.hush(draw(x.count(0)));
      } else if (kind == 2) {
        int person = draw(x.count(0));
        x.go(person, draw(31));
      }
      int[] between = owners(x);
      x.hours(1);
      int[] after = owners(x);
      for (int t = 0; t < before.length; t++) {
        often += before[t] == between[t] ? 0 : 1;
        often += between[t] == after[t] ? 0 : 1;
      }
    }
    return new int[] {often, Integer.bitCount(x.count(5)), Integer.bitCount(x.count(4))};
  }

  private static int[] owners(HummedTunes x) {
    int[] owners = new int[x.count(1)];
    for (int t = 0; t < owners.length; t++) {
      owners[t] = x.tune(t, 1);
    }
    return owners;
  }

  private static void years() {
    String hills = "person 3 1 0 2;person 5 0 4 0;whistler 2 0 9 1;person 4 0 12 0;tune 4 of 0;tune 2 of 1;tune 7 of 3;tune 1 of 1;joins 6-far;stops with=2;";
    int[] seeds = {0, 1, 5, -1, 12345, 987654321, Integer.MIN_VALUE, Integer.MAX_VALUE, 42, 77};
    for (int s : seeds) {
      int n = 7 + Integer.bitCount(s);
      HummedTunes x = Check.told(hills);
      x.hours(2);
      for (int what = 0; what < 3; what++) {
        int w = what;
        due("nothing changes", () -> x.count(2), 2);
        int got = x.years(s, n, w);
        HummedTunes y = Check.told(hills);
        y.hours(2);
        due("years(" + s + ", " + n + ", " + w + ")", () -> got, yearsByActs(y, s, n)[w]);
      }
    }
    HummedTunes x = Check.told(TWO);
    due("no hours", () -> x.years(9, 0, 0), 0);
    due("no hours", () -> x.years(9, 0, 1), 0);
    due("no hours", () -> x.years(9, 0, 2), 0);
    due("60", () -> x.years(9, 60, 2), 0);
    Check.unfit("61", () -> x.years(9, 61, 2));
    Check.unfit("-1", () -> x.years(9, -1, 2));
    Check.missing("what 3", () -> x.years(9, 61, 3));
    Check.missing("what -1", () -> x.years(9, 0, -1));
    due("nobody", () -> new HummedTunes().years(3, 60, 2), 0);
    due("no tunes", () -> Check.told("person 1 0 0 0;").years(3, 60, 1), 0);
    due("no people", () -> Check.told("tune 1;tune 2;").years(3, 60, 1), 2);
  }

  // ---- 34, 35

  private static void images() {
    HummedTunes x = Check.told(THREE);
    due("none", () -> x.restore(), false);
    x.hours(2);
    x.go(0, 1);
    x.see(0, 0, 3);
    x.see(1, -1, 4);
    x.hours(0);
    x.see(0, 0, 0);
    Check.tell(x, "x");
    String then = state(x);
    int deep = x.deep(0);
    x.image();
    x.hours(5);
    x.go(1, 7);
    x.sell(0, 2);
    x.hush(0);
    x.forget();
    x.see(2, 1, 1);
    x.see(2, 1, 0);
    x.hours(-5);
    Check.tell(x, "yy");
    Check.feed(x, "tune");
    for (int i = 0; i < 2; i++) {
      due("restored", () -> x.restore(), true);
      Check.same("state", state(x), then);
      due("acts", () -> x.count(9), 2);
      due("seen", () -> x.count(10), 2);
      due("what was seen", () -> x.deep(0), deep);
      due("STATUS 0", () -> x.count(12), 1);
      due("STATUS 1", () -> x.count(13), 1);
      due("STATUS 2", () -> x.count(14), 1);
      due("the tape stays", () -> x.count(11), 20);
      due("undone", () -> x.undo(), 1);
      due("as it was ahead", () -> x.person(0, 2), 0);
      due("undone", () -> x.undo(), 0);
      due("the first hour", () -> x.count(2), 0);
      x.hours(7);
      x.hours(7);
    }
    x.image();
    due("hours", () -> x.hours(1), 15);
    due("in place of the other one", () -> x.restore(), true);
    due("the hour", () -> x.count(2), 14);
    due("hills", () -> Check.tell(x, THREE), 1);
    due("the tape had more ahead", () -> x.fault(), 20);
    due("the image stays", () -> x.restore(), true);
    due("hills", () -> Check.tell(x, THREE), 0);
    due("the image is gone", () -> x.restore(), false);
    x.image();
    due("an image of now", () -> x.restore(), true);
    due("the hour", () -> x.count(2), 0);
  }

  // ---- which of two exceptions

  private static void whichExceptionFirst() {
    HummedTunes x = Check.told(TWO);
    int[] wrongHours = {-1, 61, Integer.MIN_VALUE, Integer.MAX_VALUE};
    for (int h : wrongHours) {
      Check.unfit("then", () -> x.then(0, h, 0));
      Check.missing("then", () -> x.then(2, h, 0));
      Check.missing("then", () -> x.then(0, h, 3));
      Check.unfit("whose", () -> x.whose(0, h, 1));
      Check.missing("whose", () -> x.whose(1, h, 1));
      Check.missing("whose", () -> x.whose(0, h, 2));
      Check.unfit("silent", () -> x.silent(0, h));
      Check.missing("silent", () -> x.silent(1, h));
      Check.unfit("loudest", () -> x.loudest(h));
      Check.unfit("later", () -> x.later(h, 1));
      Check.missing("later", () -> x.later(h, 2));
      Check.unfit("toBreathe", () -> x.toBreathe(0, 0, h));
      Check.missing("toBreathe", () -> x.toBreathe(2, 0, h));
      Check.missing("toBreathe", () -> x.toBreathe(0, 1, h));
      Check.unfit("toStand", () -> x.toStand(0, h, 0));
      Check.missing("toStand", () -> x.toStand(2, h, 0));
      Check.missing("toStand", () -> x.toStand(0, h, 2));
      Check.unfit("toHush", () -> x.toHush(0, h));
      Check.missing("toHush", () -> x.toHush(2, h));
      Check.unfit("without", () -> x.without(0, h));
      Check.missing("without", () -> x.without(2, h));
    }
    Check.unfit("silent(0, 0)", () -> x.silent(0, 0));
    Check.unfit("loudest(0)", () -> x.loudest(0));
    Check.unfit("toBreathe 0", () -> x.toBreathe(0, 0, 0));
    Check.unfit("toStand 0", () -> x.toStand(0, 0, 0));
    Check.unfit("toHush 0", () -> x.toHush(0, 0));
    Check.unfit("without 0", () -> x.without(0, 0));
    due("60 is no fault", () -> x.silent(0, 60), 58);
    due("60 is no fault", () -> x.loudest(60), 1);
    due("60 is no fault", () -> x.toBreathe(1, 0, 60) >= -1, true);
    due("60 is no fault", () -> x.toStand(1, 60, 1) >= 0, true);
    due("60 is no fault", () -> x.toHush(0, 60), -1);
    due("60 is no fault", () -> x.without(1, 60), -1);
    due("60 is no fault", () -> x.later(60, 0), 0);
    Check.missing("then what -1", () -> x.then(0, 0, -1));
    Check.missing("then person -1", () -> x.then(-1, 0, 0));
    Check.missing("whose what -1", () -> x.whose(0, 0, -1));
    Check.missing("whose tune -1", () -> x.whose(-1, 0, 0));
    Check.missing("gets", () -> x.gets(2, 0));
    Check.missing("gets", () -> x.gets(-1, 0));
    Check.missing("gets", () -> x.gets(0, 1));
    Check.missing("gets", () -> x.gets(0, -1));
    Check.missing("silent -1", () -> x.silent(-1, 1));
    Check.missing("later -1", () -> x.later(0, -1));
    Check.missing("toBreathe -1", () -> x.toBreathe(-1, 0, 1));
    Check.missing("toBreathe tune -1", () -> x.toBreathe(0, -1, 1));
    Check.missing("toStand -1", () -> x.toStand(-1, 1, 0));
    Check.missing("toStand what -1", () -> x.toStand(0, 1, -1));
    Check.missing("toHush -1", () -> x.toHush(-1, 1));
    Check.missing("without -1", () -> x.without(-1, 1));
    for (int what = 12; what <= 14; what++) {
      int w = what;
      due("no STATUS by exceptions", () -> x.count(w), 0);
    }
  }
}
