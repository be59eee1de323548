/** Terms and promises 1 to 4: a new object, the tape, the text, its FAULTS. */
final class EdgesOfText {
  private static final String ALONE = "person 20 0 0 0;tune 5 of 0;";

  private EdgesOfText() {
  }

  static void all() {
    manyCalls();
    newObject();
    numbersAsTold();
    howMany();
    whistlers();
    textLength();
    words();
    digits();
    everyByte();
    grammar();
    fromTheLeft();
    wrapping();
    dividing();
    truths();
    values();
    whichFault();
    endsTooSoon();
    misplaced();
    tooMuch();
    deepExpressions();
    manyNots();
    unknownWords();
    peopleNotTold();
    toldTwice();
    feeding();
    readingHills();
    refusedHills();
    unfitHills();
    placeOfFault();
  }

  // ---- What it is, 1

  private static void manyCalls() {
    Edge.by("What it is", "An object is used for at most 512 calls after it has been made");
    HummedTunes x = new HummedTunes();
    Check.feed(x, "person 3 2 4 1;tune 5 of 0; ");
    x.hills(27);
    // Three calls so far: 508 more, and the last one is asked.
    for (int call = 4; call < 512; call++) {
      x.go(0, call % 31);
    }
    Edge.due("the 512th call", () -> x.go(0, 30), 511 % 31);
    HummedTunes texts = new HummedTunes();
    for (int call = 0; call < 508; call += 4) {
      Edge.due("the tape is empty each time", () -> texts.feed(0x74756e65, 0x20333b74, 0x756e6520, 0x343b2020, 0), 20);
      Edge.due("a text is read each time", () -> texts.hills(16), 0);
      texts.image();
      texts.hours(20);
    }
    Edge.due("tunes", () -> texts.count(1), 2);
    Edge.due("the hour of the latest text", () -> texts.count(2), 20);
  }

  private static void newObject() {
    Edge.by("Promise 1", "Nobody, no TUNES.");
    HummedTunes x = new HummedTunes();
    for (int what = 0; what < 15; what++) {
      int w = what;
      Edge.due("count(" + w + ")", () -> x.count(w), w == 3 ? 5 : 0);
    }
    Edge.missing("person(0, 0)", () -> x.person(0, 0));
    Edge.missing("tune(0, 0)", () -> x.tune(0, 0));
    Edge.missing("hush(0)", () -> x.hush(0));
    Edge.missing("cough(0)", () -> x.cough(0));
    Edge.missing("sell(0, 0)", () -> x.sell(0, 0));
    Edge.missing("go(0, 0)", () -> x.go(0, 0));
    Edge.missing("then(0, 0, 0)", () -> x.then(0, 0, 0));
    Edge.missing("whose(0, 0, 0)", () -> x.whose(0, 0, 0));
    Edge.missing("gets(0, 0)", () -> x.gets(0, 0));
    Edge.missing("silent(0, 1)", () -> x.silent(0, 1));
    Edge.due("loudest(60)", () -> x.loudest(60), 1);
    Edge.due("later(60, 0)", () -> x.later(60, 0), -1);
    Edge.due("later(60, 1)", () -> x.later(60, 1), 0);
    Edge.missing("hums(0, 0)", () -> x.hums(0, 0));
    Edge.missing("farthest(0)", () -> x.farthest(0));
    Edge.missing("toBreathe(0, 0, 1)", () -> x.toBreathe(0, 0, 1));
    Edge.missing("toStand(0, 1, 0)", () -> x.toStand(0, 1, 0));
    Edge.missing("toHush(0, 1)", () -> x.toHush(0, 1));
    Edge.missing("without(0, 1)", () -> x.without(0, 1));
    Edge.due("round(-1)", () -> x.round(-1), 0);
    Edge.missing("round(0)", () -> x.round(0));
    Edge.missing("see(0, 0, 1)", () -> x.see(0, 0, 1));
    Edge.due("deep(0)", () -> x.deep(0), 0);
    Edge.due("deep(1)", () -> x.deep(1), -1);
    Edge.due("deep(2)", () -> x.deep(2), 1);
    Edge.due("look(0)", () -> x.look(0), -1);
    Edge.due("look(1)", () -> x.look(1), 0);
    Edge.missing("thunder(0, 0, 1, 1)", () -> x.thunder(0, 0, 1, 1));
    Edge.missing("game(0, 0, 0)", () -> x.game(0, 0, 0));
    Edge.due("years(1, 60, 0)", () -> x.years(1, 60, 0), 0);
    Edge.due("fault", x::fault, -1);
    Edge.due("undo", x::undo, -1);
    Edge.due("restore", x::restore, false);
    Edge.due("hills(0)", () -> x.hills(0), 0);
    Edge.unfit("hills(1)", () -> x.hills(1));
    Edge.due("hours(1)", () -> x.hours(1), 1);
    Edge.due("NONE", () -> HummedTunes.NONE, -1);
  }

  // ---- Terms: how much there may be

  private interface Told {
    int number(HummedTunes x);
  }

  private static void number(String ahead, String behind, int least, int most, Told told) {
    int at = ahead.length();
    for (int n = 0; n <= most + 1; n++) {
      String text = ahead + n + behind;
      Edge.fault(text, n >= least && n <= most ? 0 : 2, n >= least && n <= most ? -1 : at);
    }
    int[] edges = {least, most};
    for (int n : edges) {
      Edge.due(ahead + n, () -> told.number(Check.told(ahead + n + behind)), n);
      String zeros = "0".repeat(4 - Integer.toString(n).length()) + n;
      Edge.due(ahead + zeros, () -> told.number(Check.told(ahead + zeros + behind)), n);
    }
    Edge.fault(ahead + "9999" + behind, 2, at);
    Edge.fault(ahead + "10000" + behind, 2, at);
    Edge.fault(ahead + "0000" + least + behind, 2, at);
    Edge.fault(ahead + "4294967296" + behind, 2, at);
    Edge.fault(ahead + "-" + least + behind, 1, at);
    Edge.fault(ahead + "x" + behind, 1, at);
    Edge.fault(ahead, 1, at);
  }

  private static void numbersAsTold() {
    String[] kinds = {"person ", "whistler "};
    for (String kind : kinds) {
      Edge.by("Terms", "BREATH (1 to 20 HOURS)");
      number(kind, " 0 0 0;", 1, 20, x -> x.person(0, 0));
      Edge.by("Terms", "REST (0 to 9 HOURS)");
      number(kind + "1 ", " 0 0;", 0, 9, x -> x.person(0, 1));
      Edge.by("Terms", "a PLACE (0 to 30)");
      number(kind + "1 0 ", " 0;", 0, 30, x -> x.person(0, 2));
      Edge.by("Terms", "COWS (0 to 9)");
      number(kind + "1 0 0 ", ";", 0, 9, x -> x.person(0, 3));
    }
    Edge.by("Terms", "AIR (0 to 9)");
    number("tune ", ";", 0, 9, x -> x.tune(0, 0));
    Edge.by("Terms", "EARSHOT (0 to 30; 5 without).");
    number("earshot ", ";", 0, 30, x -> x.count(3));
    Edge.due("5 without", () -> Check.told("person 1 0 0 0;").count(3), 5);
    Edge.due("5 in an empty text", () -> Check.told("").count(3), 5);
  }

  private static void howMany() {
    Edge.by("Terms", "PEOPLE 0, 1 .. (at most 8)");
    for (int n = 0; n <= 8; n++) {
      int many = n;
      HummedTunes x = Check.told(Edge.times(n, "person 1 0 0 0;"));
      Edge.due("count(0)", () -> x.count(0), many);
      Edge.missing("person(" + n + ", 0)", () -> x.person(many, 0));
      Edge.missing("person(-1, 0)", () -> x.person(-1, 0));
      if (n > 0) {
        Edge.due("the last one", () -> x.person(many - 1, 0), 1);
      }
    }
    Edge.fault(Edge.times(9, "person 1 0 0 0;"), 2, 120);
    Edge.by("Terms", "TUNES 0, 1 .. (at most 6)");
    for (int n = 0; n <= 6; n++) {
      int many = n;
      HummedTunes x = Check.told(Edge.times(n, "tune 7;"));
      Edge.due("count(1)", () -> x.count(1), many);
      Edge.missing("tune(" + n + ", 0)", () -> x.tune(many, 0));
      Edge.missing("tune(-1, 0)", () -> x.tune(-1, 0));
      if (n > 0) {
        Edge.due("the last one", () -> x.tune(many - 1, 0), 7);
      }
    }
    Edge.fault(Edge.times(7, "tune 7;"), 2, 42);
    Edge.by("Terms", "perhaps an OWNER.");
    Edge.due("without", () -> Check.told("person 1 0 0 0;tune 7;").tune(0, 1), -1);
    Edge.due("the first one", () -> Check.told("person 1 0 0 0;tune 7 of 0;").tune(0, 1), 0);
    Edge.due("the last one", () -> Check.told(Edge.times(8, "person 1 0 0 0;") + "tune 7 of 7;").tune(0, 1), 7);
    Edge.by("Terms", "Rules: STOPS, JOINS.");
    Edge.good("stops 1;joins 1;");
    Edge.good("joins 1;stops 1;");
    Edge.good("stops 1;");
    Edge.good("joins 1;");
    Edge.good("tune 1;");
  }

  private static void whistlers() {
    Edge.by("Terms", "a whistler hears twice as far as EARSHOT.");
    int[] earshots = {0, 1, 5, 14, 15};
    for (int earshot : earshots) {
      for (int far = 0; far <= 30; far++) {
        int at = far;
        HummedTunes x = Check.told("earshot " + earshot + ";whistler 1 0 0 0;person 1 0 " + far + " 0;");
        Edge.due("earshot " + earshot + ", a whistler hears " + at, () -> x.person(0, 8), at <= 2 * earshot ? 2 : 0);
        Edge.due("earshot " + earshot + ", another one hears " + at, () -> x.person(1, 8), at <= earshot ? 1 : 0);
      }
    }
    HummedTunes all = Check.told("earshot 30;whistler 1 0 0 0;person 1 0 30 0;");
    Edge.due("earshot 30", () -> all.person(0, 8), 2);
    Edge.due("earshot 30", () -> all.person(1, 8), 1);
  }

  // ---- Terms: TOKENS

  private static void textLength() {
    Edge.by("Terms", "A TEXT of at most 700 bytes tells it.");
    String line = "tune 3;";
    String full = " ".repeat(693) + line;
    Edge.due("700 bytes", () -> Check.told(full).count(1), 1);
    Edge.fault(full.substring(0, 699), 1, 699);
    Edge.fault(" ".repeat(699) + "x", 1, 699);
    Edge.fault(" ".repeat(694) + "tune 3", 1, 700);
    Edge.good(" ".repeat(700));
    String rule = "stops " + "1-1+".repeat(173) + "0;";
    Edge.due("a rule as long as can be", rule::length, 700);
    Edge.good(rule);
    Edge.fault(rule.substring(0, 699), 1, 699);
    Edge.fault(rule.substring(0, 699) + ")", 1, 699);
  }

  private static void words() {
    Edge.by("Terms", "words (a .. z, the longest row)");
    Edge.fault("tunes 1;", 1, 0);
    Edge.fault("tun 1;", 1, 0);
    Edge.fault("tu ne 1;", 1, 0);
    Edge.fault("Tune 1;", 1, 0);
    Edge.fault("tunE 1;", 1, 0);
    Edge.fault("tune1o;", 1, 5);
    Edge.good("person1 0 0 0;tune1of0;");
    Edge.fault("person1 0 0 0;tune1off 0;", 1, 19);
    Edge.fault("stops hourair;", 3, 6);
    Edge.fault("stops nothour;", 3, 6);
    Edge.good("stops not hour;");
    Edge.good("stops 1or 2and 3;");
    Edge.good("stops 1 or2 and3;");
    Edge.fault("stops 1 orhour;", 1, 8);
    Edge.fault("stops " + "z".repeat(690) + ";", 3, 6);
    String[] lines = {"person", "whistler", "tune", "earshot", "stops", "joins"};
    for (String word : lines) {
      for (int i = 0; i < word.length(); i++) {
        Edge.fault(word.substring(0, i) + "z" + word.substring(i + 1) + " 1", 1, 0);
        Edge.fault(word.substring(0, i) + word.substring(i + 1) + " 1", 1, 0);
      }
    }
    String[] values = {"breath", "air", "with", "tunes", "hour", "hummed"};
    for (String word : values) {
      for (int i = 0; i < word.length(); i++) {
        Edge.fault("stops " + word.substring(0, i) + "z" + word.substring(i + 1) + ";", 3, 6);
      }
    }
    String[] between = {"zr", "oz", "znd", "azd", "anz", "zot"};
    for (String word : between) {
      Edge.fault("stops 1 " + word + " 1;", 1, 8);
    }
    String[] nots = {"zot", "nzt", "noz"};
    for (String word : nots) {
      Edge.fault("stops " + word + " 1;", 3, 6);
    }
    Edge.fault("person 1 0 0 0;tune 1 zf 0;", 1, 22);
    Edge.fault("person 1 0 0 0;tune 1 oz 0;", 1, 22);
  }

  private static void digits() {
    Edge.by("Terms", "NUMBERS (1 to 4 digits)");
    Edge.good("stops 0;");
    Edge.good("stops 9999;");
    Edge.good("stops 0000;");
    Edge.fault("stops 10000;", 2, 6);
    Edge.fault("stops 00000;", 2, 6);
    Edge.fault("stops " + "9".repeat(690) + ";", 2, 6);
    Edge.fault("stops 12 34;", 1, 9);
    Edge.fault("stops 12\n34;", 1, 9);
    Edge.fault("tune 0 1;", 1, 7);
  }

  /** Each byte behind a NUMBER of a rule, and as a text of its own. */
  private static void everyByte() {
    Edge.by("Terms", "signs ; ( ) + - * / < = ; blanks (32, 10) between them count for nothing.");
    for (int b = 0; b < 256; b++) {
      char c = (char) b;
      boolean blank = b == 32 || b == 10;
      boolean digit = b >= '0' && b <= '9';
      Edge.fault(Character.toString(c), blank ? 0 : 1, blank ? -1 : 0);
      String text = "stops 1" + c + "1;";
      if (digit || "+-*/<=".indexOf(c) >= 0) {
        Edge.good(text);
      } else {
        Edge.fault(text, 1, blank || c == ';' ? 8 : 7);
      }
      if (blank || c == '0') {
        Edge.good("tune" + c + "1;");
      } else {
        Edge.fault("tune" + c + "1;", digit ? 2 : 1, b >= 'a' && b <= 'z' ? 0 : 4);
      }
    }
    Edge.good("\n \n tune\n\n1\n  ;\n");
    Edge.good("tune 1;");
    Edge.good("stops(1)+(2)*3/4<5;");
  }

  // ---- Terms: the grammar

  private static void grammar() {
    Edge.by("Terms", "HILLS: LINE*.");
    Edge.good("");
    Edge.good("tune 1;");
    Edge.good("tune 1;tune 1;");
    Edge.fault(";", 1, 0);
    Edge.fault("tune 1;;", 1, 7);
    Edge.by("Terms", "[ ] perhaps, * any number of times, | one of some.");
    Edge.good("person 1 0 0 0;whistler 1 0 0 0;");
    Edge.fault("person whistler 1 0 0 0;", 1, 7);
    Edge.good("tune 1;".repeat(6) + "earshot 1;stops 1" + "+1".repeat(300) + ";");
    Edge.by("Terms", "'tune' AIR ['of' PERSON]");
    Edge.good("person 1 0 0 0;tune 1;");
    Edge.good("person 1 0 0 0;tune 1 of 0;");
    Edge.fault("person 1 0 0 0;tune 1 of 0 of 0;", 1, 27);
    Edge.fault("person 1 0 0 0;tune of 0;", 1, 20);
    Edge.by("Terms", "all in capitals but EXPR being NUMBERS.");
    Edge.fault("person 1 0 0 hour;", 1, 13);
    Edge.fault("tune (1);", 1, 5);
    Edge.fault("earshot 1+1;", 1, 9);
    Edge.by("Terms", "EXPR: AND ('or' AND)*. AND: NOT ('and' NOT)*.");
    Edge.good("stops 1 or 1 or 1 and 1 and 1 or 1;");
    Edge.fault("stops 1 or or 1;", 3, 11);
    Edge.fault("stops 1 or;", 1, 10);
    Edge.fault("stops 1 and;", 1, 11);
    Edge.fault("stops or 1;", 3, 6);
    Edge.by("Terms", "NOT: 'not' NOT | SUM [('<' | '=') SUM].");
    Edge.good("stops 1<1;");
    Edge.fault("stops 1<1<1;", 1, 9);
    Edge.fault("stops 1=1=1;", 1, 9);
    Edge.fault("stops 1<1=1;", 1, 9);
    Edge.fault("stops 1=1<1;", 1, 9);
    Edge.fault("stops not 1<1<1;", 1, 13);
    Edge.good("stops 1<1 and 1<1;");
    Edge.good("stops (1<1)<1;");
    Edge.fault("stops <1;", 1, 6);
    Edge.fault("stops 1<;", 1, 8);
    Edge.fault("stops 1==1;", 1, 8);
    Edge.by("Terms", "SUM: PRODUCT (('+' | '-') PRODUCT)*. PRODUCT: PART (('*' | '/') PART)*.");
    Edge.fault("stops 1++1;", 1, 8);
    Edge.fault("stops 1*/1;", 1, 8);
    Edge.fault("stops -1;", 1, 6);
    Edge.fault("stops 1-;", 1, 8);
    Edge.by("Terms", "PART: NUMBER | VALUE | '(' EXPR ')'.");
    Edge.fault("stops ();", 1, 7);
    Edge.fault("stops (1;", 1, 8);
    Edge.fault("stops 1);", 1, 7);
    Edge.fault("stops (1));", 1, 9);
    Edge.fault("stops (1)(1);", 1, 9);
    Edge.fault("stops 1(1);", 1, 7);
    Edge.good("stops (not 1 or 1 and 1<1);");
  }

  // ---- Terms: what a rule gives

  /** STOPS of one with a BREATH of 20 and a TUNE of AIR 5 who has hummed it an HOUR; the HOUR is 1. */
  private static boolean stops(String expr) {
    return Check.told(ALONE + "stops " + expr + ";").then(0, 2, 0) == -1;
  }

  /** Any int as an EXPR, byte by byte. */
  private static String written(int n) {
    return "((" + (n >>> 24) + "*256+" + (n >> 16 & 255) + ")*256+" + (n >> 8 & 255) + ")*256+" + (n & 255);
  }

  private static void gives(String expr, int want) {
    Edge.due(expr + " is " + want, () -> stops("(" + expr + ")=(" + written(want) + ")"), true);
    Edge.due(expr + " is not below " + want, () -> stops("(" + expr + ")<(" + written(want) + ")"), false);
    Edge.due(expr + " is not above " + want, () -> stops("(" + written(want) + ")<(" + expr + ")"), false);
    Edge.due(expr + " stops, if above 0", () -> stops(expr), want > 0);
  }

  private static void fromTheLeft() {
    Edge.by("Terms", "From the left;");
    gives("9-3-2", 4);
    gives("9-3+2", 8);
    gives("64/4/2", 8);
    gives("64/4*2", 32);
    gives("7*3/2", 10);
    gives("7/2*3", 9);
    gives("1+2*3", 7);
    gives("(1+2)*3", 9);
  }

  private static final String LEAST = "4096*4096*128";

  private static void wrapping() {
    Edge.by("Terms", "ints that wrap");
    gives(LEAST, Integer.MIN_VALUE);
    gives(LEAST + "-1", Integer.MAX_VALUE);
    gives(LEAST + "-1+1", Integer.MIN_VALUE);
    gives("0-" + LEAST, Integer.MIN_VALUE);
    gives("4096*4096*256", 0);
    gives("4096*4096*255", -16777216);
    gives("9999*9999", 99980001);
    gives("9999*9999*9999", -1027349969);
    gives("(" + LEAST + "-1)*2", -2);
    gives("(" + LEAST + "-1)*(" + LEAST + "-1)", 1);
    gives(LEAST + "+" + LEAST, 0);
  }

  private static void dividing() {
    Edge.by("Terms", "/ cut down to 0, by 0 gives 0");
    gives("7/2", 3);
    gives("(0-7)/2", -3);
    gives("7/(0-2)", -3);
    gives("(0-7)/(0-2)", 3);
    gives("1/2", 0);
    gives("(0-1)/2", 0);
    gives("1/9999", 0);
    gives("0/7", 0);
    gives("7/0", 0);
    gives("0/0", 0);
    gives("(0-7)/0", 0);
    gives("7/(2-2)", 0);
    gives("5/with", 0);
    gives("7/0+3", 3);
    gives("7/0*3", 0);
    gives("7/0/3", 0);
    gives(LEAST + "/0", 0);
    gives(LEAST + "/(0-1)", Integer.MIN_VALUE);
    gives(LEAST + "/1", Integer.MIN_VALUE);
    gives("(" + LEAST + "-1)/(0-1)", -Integer.MAX_VALUE);
    gives("1/(" + LEAST + ")", 0);
  }

  private static void truths() {
    Edge.by("Terms", "tests, not, and, or are 1 or 0 (what isn't 0 holds).");
    gives("1<1", 0);
    gives("0<1", 1);
    gives("1<0", 0);
    gives("0=0", 1);
    gives("0=1", 0);
    gives(LEAST + "<" + LEAST + "-1", 1);
    gives(LEAST + "-1<" + LEAST, 0);
    gives("not 0", 1);
    gives("not 1", 0);
    gives("not 2", 0);
    gives("not (0-1)", 0);
    gives("not (" + LEAST + ")", 0);
    gives("not not 0", 0);
    gives("not not 7", 1);
    gives("2 and 4", 1);
    gives("2 and 0", 0);
    gives("0 and 2", 0);
    gives("0 and 0", 0);
    gives("2 or 4", 1);
    gives("2 or 0", 1);
    gives("0 or 2", 1);
    gives("0 or 0", 0);
    gives("(0-1) and (0-2)", 1);
    gives("0 or (0-2)", 1);
    gives(LEAST + " and " + LEAST, 1);
    gives("1 or 0 and 0", 1);
    gives("0 and 0 or 1", 1);
    gives("not 1 or 1", 1);
    gives("not 0=1", 1);
    gives("(not 0)=1", 1);
    gives("(not 3)+(not 0)+(2 and 2)+(0 or 9)+(3<4)+(4=4)", 5);
    gives("7", 7);
    gives("(7)", 7);
  }

  private static void values() {
    Edge.by("Terms", "'with' (how many others hum it)");
    String eight = Edge.times(8, "person 20 0 0 0;") + "tune 1 of 0;joins 1;stops ";
    Edge.due("seven others", () -> Check.told(eight + "with=7;").whose(0, 2, 1), 0);
    Edge.due("not eight", () -> Check.told(eight + "with=8;").whose(0, 2, 1), 255);
    gives("with", 0);
    String joining = Edge.times(8, "person 20 0 0 0;") + "tune 1 of 0;joins ";
    Edge.due("those ahead", () -> Check.told(joining + "with<3;").whose(0, 1, 1), 7);
    Edge.due("none ahead of all", () -> Check.told(joining + "with=0;").whose(0, 1, 1), 1);
    Edge.by("Terms", "'tunes' (how many one owns)");
    String six = "person 20 0 0 0;" + Edge.times(6, "tune 1 of 0;") + "stops ";
    Edge.due("six", () -> Check.told(six + "tunes=6;").then(0, 2, 0), -1);
    Edge.due("not five", () -> Check.told(six + "tunes=5;").then(0, 2, 0), 0);
    String none = "person 20 0 0 0;person 20 0 0 0;tune 1 of 0;joins ";
    Edge.due("none", () -> Check.told(none + "tunes=0;").then(1, 1, 0), 0);
    Edge.due("not one", () -> Check.told(none + "tunes=1;").then(1, 1, 0), -1);
    Edge.by("Terms", "'hour', of STOPS also 'hummed' (for how many HOURS one has hummed it)");
    gives("hour", 1);
    gives("hummed", 1);
    Edge.due("the first hour is 0", () -> Check.told(none + "hour=0;").then(1, 1, 0), 0);
    Edge.due("hummed 19 is asked", () -> Check.told(ALONE + "stops hummed=19;").then(0, 20, 0), -1);
    Edge.due("hummed 0 is not", () -> Check.told(ALONE + "stops hummed=0;").then(0, 20, 0), 0);
    Edge.by("Terms", "of JOINS 'far' (how far the nearest of all who hum it is, HEARD or not).");
    String ends = "earshot 30;person 20 0 0 0;person 20 0 30 0;tune 1 of 0;joins ";
    Edge.due("30 far", () -> Check.told(ends + "far=30;").then(1, 1, 0), 0);
    Edge.due("not 29", () -> Check.told(ends + "far=29;").then(1, 1, 0), -1);
    Edge.due("0 far", () -> Check.told(none + "far=0;").then(1, 1, 0), 0);
    String three = "earshot 30;person 20 0 0 0;person 20 0 20 0;person 20 0 12 0;tune 1 of 0;joins (far=20)+(far=8);";
    Edge.due("the nearest", () -> Check.told(three).whose(0, 1, 1), 7);
  }

  // ---- Terms: FAULTS

  private static void whichFault() {
    Edge.by("Terms", "FAULTS, the first along the text, at a TOKEN's first byte, of one TOKEN the least");
    Edge.fault("tune 10;x", 2, 5);
    Edge.fault("tune 1 of 0;tune 10;x", 3, 10);
    Edge.fault("x;tune 10;", 1, 0);
    Edge.fault("earshot 1;earshot 31;", 5, 10);
    Edge.fault("tune   12345", 2, 7);
    Edge.fault("tune 1 of 12345;", 2, 10);
    Edge.fault("stops ((((((nonsense", 2, 12);
    Edge.fault("stops 1;stops ((((((", 5, 8);
    Edge.fault("stops 1 12345;", 1, 8);
    Edge.fault("12345", 1, 0);
    Edge.fault("tune 1 12345;", 1, 7);
    Edge.fault("person 1 0 0 0 31;", 1, 15);
  }

  /** Each beginning of a good text, one byte longer each time. */
  private static void endsTooSoon() {
    Edge.by("Terms", "1 a TOKEN that can't stand there, or is none (the text's length where it ends too soon)");
    String text = "person 3 1 0 2;tune 4 of 0;";
    for (int n = 1; n < text.length(); n++) {
      boolean inPerson = n < 6;
      boolean inTune = n > 15 && n < 19;
      boolean inOf = n == 23;
      if (n == 15) {
        Edge.good(text.substring(0, n));
      } else {
        Edge.fault(text.substring(0, n), 1, inPerson ? 0 : inTune ? 15 : inOf ? 22 : n);
      }
    }
    String rule = "joins (1+far)<3 and not 2;";
    for (int n = 5; n < rule.length(); n++) {
      String cut = rule.substring(0, n);
      if (n == 10 || n == 11) {
        Edge.fault(cut, 3, 9);
      } else if (n == 17 || n == 18) {
        Edge.fault(cut, 1, 16);
      } else if (n == 21 || n == 22) {
        Edge.fault(cut, 3, 20);
      } else {
        Edge.fault(cut, 1, n);
      }
    }
    Edge.fault("tune", 1, 4);
    Edge.fault("tune   \n", 1, 8);
    Edge.fault("earshot 5", 1, 9);
    Edge.fault("earshot 5 ", 1, 10);
    HummedTunes x = new HummedTunes();
    Check.feed(x, "tune 1;tune 2;");
    Edge.due("only so many bytes are the text", () -> x.hills(12), 1);
    Edge.due("where they end", x::fault, 12);
  }

  private static void misplaced() {
    Edge.by("Terms", "1 a TOKEN that can't stand there, or is none");
    String[] begins = {"of", "not", "or", "hour", "tuner", "1", "12345", ";", "(", ")", "+", "<", ">", "!", "\t", "\u00ff"};
    for (String token : begins) {
      Edge.fault("tune 1; " + token, 1, 8);
    }
    String[] behind = {"of", "person", "1", "12345", "(", "=", ".", "\r"};
    for (String token : behind) {
      Edge.fault("earshot 5 " + token, 1, 10);
      Edge.fault("person 1 0 0 0 " + token, 1, 15);
    }
    String[] parts = {";", ")", "+", "-", "*", "/", "<", "=", ">", "&"};
    String[] ahead = {"stops ", "stops 1+", "stops 1-", "stops 1*", "stops 1/", "stops 1<", "stops 1=", "stops (", "stops not ",
        "stops 1 and ", "stops 1 or "};
    for (String start : ahead) {
      for (String token : parts) {
        Edge.fault(start + token, 1, start.length());
      }
    }
    String[] ends = {"1", "12345", "(", ")", "hour", "not", "x", ">"};
    for (String token : ends) {
      Edge.fault("stops 1 " + token, 1, 8);
    }
  }

  private static void tooMuch() {
    Edge.by("Terms", "2 one that can, but is too much: a NUMBER of 5 digits or more, or (not in an EXPR) not as told");
    Edge.fault("person 1 0 0 0;tune 1 of 00000;", 2, 25);
    Edge.fault("stops 1+00001;", 2, 8);
    Edge.fault("stops (12345);", 2, 7);
    Edge.fault("stops not 12345;", 2, 10);
    Edge.good("stops 9999;joins 31;");
    Edge.good("stops 0;joins 0;");
    Edge.by("Terms", "the first TOKEN of the 9th PERSON, the 7th TUNE");
    String eight = Edge.times(4, "person 1 0 0 0;whistler 1 0 0 0;");
    Edge.good(eight);
    Edge.fault(eight + "person", 2, 128);
    Edge.fault(eight + "whistler", 2, 128);
    Edge.fault(eight + "  person 0 0 0 0;", 2, 130);
    Edge.fault(eight + "perso", 1, 128);
    String six = Edge.times(6, "tune 1;");
    Edge.good(six);
    Edge.fault(six + "tune", 2, 42);
    Edge.fault(six + "\ntune 10;", 2, 43);
    Edge.fault(six + "tun", 1, 42);
    Edge.good(eight + six + "earshot 1;stops 1;joins 1;");
  }

  private static void deepExpressions() {
    Edge.by("Terms", "of an EXPR within 6 others (a NUMBER, any word, a parenthesis)");
    Edge.good("stops (((((1)))));");
    Edge.good("stops (((((not hour)))));");
    String[] firsts = {"1", "9999", "12345", "hour", "far", "x", "not", "or", "and", "person", "("};
    for (String first : firsts) {
      Edge.fault("stops ((((((" + first, 2, 12);
      Edge.fault("joins 1+2*(((((3 and (" + first, 2, 22);
    }
    String[] others = {"", ")", ";", "+", "-", "*", "/", "<", "=", "A"};
    for (String other : others) {
      Edge.fault("stops ((((((" + other, 1, 12);
    }
    Edge.fault("stops (((((( 1", 2, 13);
    Edge.good("stops (((((1)))))+(((((1)))))*(((((1)))));");
    Edge.fault("stops (((((1)))))+((((((1))))));", 2, 24);
    Edge.good("stops (((((1)))));joins (((((1)))));");
    // Of each EXPR all that can wait for its right hand waits, six of them one within the other.
    String deep = "1";
    for (int i = 0; i < 5; i++) {
      deep = "0 or 1 and 1=0+1*(" + deep + ")";
    }
    gives("0 or 1 and 1=0+1*1", 1);
    HummedTunes x = Check.told(ALONE + "stops " + deep + ";");
    Edge.due("all of them wait", () -> x.then(0, 2, 0), -1);
    HummedTunes y = Check.told(ALONE + "stops " + deep.replace("(1)", "(2)") + ";");
    Edge.due("all of them wait", () -> y.then(0, 2, 0), 0);
  }

  private static void manyNots() {
    Edge.by("Terms", "the seventh 'not' side by side");
    String six = Edge.times(6, "not ");
    gives(six + "7", 1);
    gives(Edge.times(5, "not ") + "7", 0);
    Edge.fault("stops " + six + "not 1;", 2, 30);
    Edge.fault("stops " + six + "not", 2, 30);
    Edge.fault("stops " + six + six, 2, 30);
    Edge.fault("stops 1 or " + six + "not", 2, 35);
    Edge.fault("stops (" + six + "not", 2, 31);
    Edge.good("stops " + six + "1 and " + six + "1 or " + six + "1;");
    Edge.good("stops " + six + "(" + six + "1);");
    Edge.fault("stops " + six + "x;", 3, 30);
    Edge.fault("stops " + six + ";", 1, 30);
    Edge.fault("stops " + six, 1, 30);
  }

  private static void unknownWords() {
    Edge.by("Terms", "3 any word where a PART must stand that is no VALUE of this EXPR");
    String[] ahead = {"stops ", "stops 1+", "stops 1-", "stops 1*", "stops 1/", "stops 1<", "stops 1=", "stops (", "stops not ",
        "stops 1 and ", "stops 1 or ", "stops 1 + "};
    String[] words = {"x", "far", "or", "and", "of", "person", "stops", "hours", "hou", "tune"};
    for (String start : ahead) {
      for (String word : words) {
        Edge.fault(start + word, 3, start.length());
      }
      Edge.good(start + "hummed" + (start.endsWith("(") ? ");" : ";"));
    }
    String[] noNots = {"stops 1+", "stops 1-", "stops 1*", "stops 1/", "stops 1<", "stops 1="};
    for (String start : noNots) {
      Edge.fault(start + "not", 3, start.length());
      Edge.fault(start + "not 1;", 3, start.length());
    }
    Edge.fault("joins hummed;", 3, 6);
    Edge.good("joins far;");
    Edge.good("stops hummed;");
    String[] both = {"breath", "air", "with", "tunes", "hour"};
    for (String word : both) {
      Edge.good("stops " + word + ";joins " + word + ";");
    }
  }

  private static void peopleNotTold() {
    Edge.by("Terms", "a PERSON who isn't told ahead");
    Edge.fault("tune 1 of 0;", 3, 10);
    Edge.fault("tune 1 of 0;person 1 0 0 0;", 3, 10);
    Edge.fault("person 1 0 0 0;tune 1 of 1;person 1 0 0 0;", 3, 25);
    Edge.good("person 1 0 0 0;person 1 0 0 0;tune 1 of 1;");
    Edge.good("person 1 0 0 0;tune 1 of 0000;");
    Edge.fault("person 1 0 0 0;tune 1 of 9999;", 3, 25);
    String eight = Edge.times(8, "person 1 0 0 0;");
    Edge.good(eight + "tune 1 of 7;");
    Edge.fault(eight + "tune 1 of 8;", 3, 130);
    Edge.fault("tune 1 of x;", 1, 10);
    Edge.fault("tune 1 of ;", 1, 10);
    Edge.fault("tune 1 of", 1, 9);
  }

  private static void toldTwice() {
    Edge.by("Terms", "5 a second 'earshot', 'stops', 'joins'.");
    String[] lines = {"earshot 5;", "stops 1;", "joins 1;"};
    for (String line : lines) {
      String word = line.substring(0, line.indexOf(' '));
      Edge.fault(line + line, 5, line.length());
      Edge.fault(line + "tune 1;\n" + word, 5, line.length() + 8);
      Edge.fault(line + word + " 99999", 5, line.length());
    }
    Edge.good("earshot 5;stops 1;joins 1;");
    Edge.fault("earshot 0;earshot 0;", 5, 10);
    Edge.fault("stops 0;joins 0;stops 0;", 5, 16);
    Edge.fault("joins 0;stops 0;joins 0;", 5, 16);
  }

  // ---- 2

  private static void feeding() {
    Edge.by("Promise 2", "Twenty bytes come behind the tape, of each number the highest first: how many it has");
    HummedTunes x = new HummedTunes();
    Edge.due("the first", () -> x.feed(0x74756e65, 0x20373b74, 0x756e6520, 0x383b7475, 0x6e652039), 20);
    Edge.due("behind it", () -> x.feed(0x3b202020, 0x20202020, 0x20202020, 0x20202020, 0x20207f80), 40);
    Edge.due("read in a row", () -> x.hills(38), 0);
    for (int tune = 0; tune < 3; tune++) {
      int t = tune;
      Edge.due("air of " + t, () -> x.tune(t, 0), 7 + t);
    }
    int[] bytes = {0x80000000, 0xff000000, 0x7f000000, -1, Integer.MIN_VALUE, Integer.MAX_VALUE, 0};
    for (int four : bytes) {
      HummedTunes y = new HummedTunes();
      Edge.due("any bytes come", () -> y.feed(four, four, four, four, four), 20);
      Edge.due("they are no tokens", () -> y.hills(20), 1);
      Edge.due("from the first on", y::fault, 0);
    }
    Edge.by("Promise 2", "NONE, and none come, if it would have more than 700.");
    HummedTunes full = new HummedTunes();
    for (int i = 1; i <= 35; i++) {
      int many = 20 * i;
      Edge.due("feed", () -> full.feed(0x20202020, 0x20202020, 0x20202020, 0x20202020, 0x20202020), many);
    }
    String before = Edge.state(full);
    Edge.due("beyond 700", () -> full.feed(0x78787878, 0, 0, 0, 0), -1);
    Edge.due("again", () -> full.feed(0x78787878, 0, 0, 0, 0), -1);
    Edge.due("none come", () -> Edge.state(full), before);
    Edge.due("700", () -> full.count(11), 700);
    for (int status = 12; status < 15; status++) {
      int s = status;
      Edge.due("no STATUS", () -> full.count(s), 0);
    }
    Edge.due("all are blanks still", () -> full.hills(700), 0);
    Edge.due("there is room again", () -> full.feed(0, 0, 0, 0, 0), 20);
  }

  // ---- 3, 4

  private static HummedTunes lively() {
    HummedTunes x = Check.told("earshot 9;person 3 1 0 2;person 5 2 4 0;tune 4 of 0;tune 2 of 1;joins 6-far;");
    x.hours(2);
    x.go(0, 1);
    x.see(0, 0, 3);
    x.image();
    return x;
  }

  private static void readingHills() {
    Edge.by("Promise 3", "The tape's first n bytes (it is empty then) are HILLS, all anew");
    HummedTunes x = lively();
    Check.feed(x, "tune 1;tune 2;x");
    Edge.due("fewer than there are", () -> x.hills(14), 0);
    Edge.due("the rest is gone as well", () -> x.count(11), 0);
    Edge.due("nobody", () -> x.count(0), 0);
    Edge.due("two tunes", () -> x.count(1), 2);
    Edge.due("the hour", () -> x.count(2), 0);
    Edge.due("earshot untold", () -> x.count(3), 5);
    Edge.due("nobody hums", () -> x.count(4), 0);
    Edge.due("nobody owns", () -> x.count(5), 3);
    Check.feed(x, "tune 1;");
    Edge.due("none of them", () -> x.hills(0), 0);
    Edge.due("no tunes", () -> x.count(1), 0);
    Edge.due("the tape is empty", () -> x.count(11), 0);
    Check.feed(x, "tune 1;");
    Edge.due("just as many", () -> x.hills(20), 0);
    Edge.due("one tune", () -> x.count(1), 1);
    HummedTunes y = lively();
    Check.tell(y, "person 3 0 0 0;person 3 0 0 0;tune 4 of 0;");
    Edge.due("the rule is gone", () -> y.whose(0, 3, 1), 1);
    HummedTunes humming = lively();
    Edge.due("one hums", () -> humming.person(0, 5), 2);
    Check.tell(humming, "person 3 9 0 0;person 3 0 0 0;tune 4 of 0;");
    Edge.due("no more", () -> humming.person(0, 4), -1);
    Edge.due("for no hour", () -> humming.person(0, 5), 0);
    humming.hours(4);
    Check.tell(humming, "person 3 9 0 0;person 3 0 0 0;tune 4 of 0;");
    Edge.due("never stopped", () -> humming.person(0, 7), 1);
    Edge.by("Promise 3", "ACTS, what is SEEN, the image are gone.");
    HummedTunes z = lively();
    Edge.refused("an act", z, 13, () -> z.hours(0));
    Edge.refused("a sight", z, 14, () -> z.see(0, 0, 0));
    Check.tell(z, "person 3 1 0 2;tune 4 of 0;");
    Edge.due("acts", () -> z.count(9), 0);
    Edge.due("undo", z::undo, -1);
    Edge.due("seen", () -> z.count(10), 0);
    Edge.due("all agrees", () -> z.deep(2), 1);
    Edge.due("restore", z::restore, false);
    Edge.due("STATUS 1 is not gone", () -> z.count(13), 1);
    Edge.due("STATUS 2 is not gone", () -> z.count(14), 1);
  }

  private static void refusedHills() {
    Edge.by("Promise 3", "0, or the FAULT (all stays, but STATUS).");
    String[] texts = {"x", "tune 10;", "tune 1 of 0;", "stops 1;stops 1;", "tune"};
    int[] numbers = {1, 2, 3, 5, 1};
    HummedTunes x = lively();
    int place = x.fault();
    for (int i = 0; i < texts.length; i++) {
      String text = texts[i];
      String before = Edge.state(x).substring(("fault " + place).length());
      Edge.due(text, () -> Check.tell(x, text), numbers[i]);
      place = x.fault();
      int behind = ("fault " + place).length();
      Edge.due("all stays", () -> Edge.state(x).substring(behind), before);
      int many = i + 1;
      Edge.due("STATUS 0", () -> x.count(12), many);
      Edge.due("no other STATUS", () -> x.count(13) + x.count(14), 0);
    }
    Edge.due("undo", x::undo, 1);
    Edge.due("the image stays", x::restore, true);
    Edge.due("and what it keeps", () -> x.count(9), 2);
    // Lines ahead of the FAULT leave nothing behind in what is read then.
    Check.tell(x, "earshot 3;stops 1;joins 1;person 1 1 1 1;tune 1 of 0;x");
    Edge.due("read anew", () -> Check.tell(x, "earshot 4;stops 1;joins 1;tune 2;"), 0);
    Edge.due("earshot", () -> x.count(3), 4);
    Edge.due("people", () -> x.count(0), 0);
  }

  private static void unfitHills() {
    Edge.by("Promise 3", "IllegalArgumentException: the tape has not so many, n below 0 (nothing changes).");
    HummedTunes x = lively();
    Check.tell(x, "tune 10;");
    int[] wrong = {1, -1, Integer.MIN_VALUE, Integer.MAX_VALUE};
    for (int n : wrong) {
      Edge.throwsOnly("of an empty tape: " + n, x, "IllegalArgumentException", () -> x.hills(n));
    }
    Check.feed(x, "tune 1;");
    int[] more = {21, 40, 700, 701, -1, -20, Integer.MIN_VALUE, Integer.MAX_VALUE};
    for (int n : more) {
      Edge.throwsOnly("of 20: " + n, x, "IllegalArgumentException", () -> x.hills(n));
    }
    Edge.due("the tape stays", () -> x.count(11), 20);
    Edge.due("the latest FAULT's place stays", x::fault, 5);
    Edge.due("it can be read", () -> x.hills(7), 0);
    HummedTunes full = new HummedTunes();
    Check.feed(full, " ".repeat(700));
    Edge.throwsOnly("of 700: 701", full, "IllegalArgumentException", () -> full.hills(701));
    Edge.due("of 700: 700", () -> full.hills(700), 0);
  }

  private static void placeOfFault() {
    Edge.by("Promise 4", "The place of the latest hills()'s FAULT; NONE without.");
    HummedTunes x = new HummedTunes();
    Edge.due("ahead of all", x::fault, -1);
    Check.tell(x, "x");
    Edge.due("0", x::fault, 0);
    Check.tell(x, " ".repeat(694) + "tune 1");
    Edge.due("700", x::fault, 700);
    Check.tell(x, "tune 10;");
    Edge.due("the latest", x::fault, 5);
    x.hours(1);
    x.undo();
    Edge.due("it stays", x::fault, 5);
    Check.tell(x, "tune 1;");
    Edge.due("none", x::fault, -1);
    Check.tell(x, "x");
    Edge.due("hills(0)", () -> x.hills(0), 0);
    Edge.due("none", x::fault, -1);
  }
}
