/**
 * The document's first lines, clause by clause, by one story that is reckoned by hand:
 * <pre>
 * HOUR          1   2   3   4   5   6   7   8   9  10  11  12
 * 0 (4, 1)      h   h   h   h   s   .   .   h   h   h   h   s
 * 1 (2, 0)      h   h   s   h   h   s   h   h   s   h   h   s
 * 2 (6, 0)      h   h   h   h   h   h   s   h   h   h   h   h
 * </pre>
 * 0 and 1 hum TUNE 0, 2 hums TUNE 1; h: hums, s: stops. In the 6th HOUR 1 is the last one, in the
 * 12th the last ones stop together.
 */
final class EdgesOfFirstLines {
  private static final String PEOPLE = "person 4 1 0 1;person 2 0 3 0;person 6 0 20 2;tune 5 of 0;tune 2 of 2;";
  private static final String STORY = PEOPLE + "joins 1;";

  private EdgesOfFirstLines() {
  }

  static void all() {
    whoStopsLast();
    peopleInTheHills();
    twoRules();
    together();
    acts();
    whatWillBe();
    hearing();
    whatOneCouldDo();
    whatWasSeen();
    thunder();
    aGame();
    years();
    constants();
  }

  private static HummedTunes behind(int hours) {
    HummedTunes x = Check.told(STORY);
    if (hours > 0) {
      x.hours(hours);
    }
    return x;
  }

  private static void whoStopsLast() {
    Edge.by("First lines 1", "tunes that belong to whom was the last to leave off humming them");
    Edge.due("while both hum it is as it was", () -> behind(4).tune(0, 1), 0);
    Edge.due("who left off first has it until the last one does", () -> behind(5).tune(0, 1), 0);
    Edge.due("the last one has it", () -> behind(6).tune(0, 1), 1);
    Edge.due("alone one keeps it", () -> behind(7).tune(1, 1), 2);
  }

  private static void peopleInTheHills() {
    Edge.by("First lines 1", "people with breath and rest who stand about in the hills");
    HummedTunes x = behind(0);
    int[][] told = {{4, 1, 0, 1}, {2, 0, 3, 0}, {6, 0, 20, 2}};
    for (int person = 0; person < 3; person++) {
      for (int what = 0; what < 4; what++) {
        int p = person;
        int w = what;
        Edge.due("person(" + p + ", " + w + ")", () -> x.person(p, w), told[p][w]);
      }
    }
  }

  private static void twoRules() {
    Edge.by("First lines 2", "who hums stops by a rule in a language, who hears joins by another one");
    HummedTunes neither = Check.told(PEOPLE);
    Edge.due("without a rule nobody joins", () -> neither.whose(0, 2, 1), 1);
    Edge.due("with one who hears does", () -> behind(2).tune(0, 2), 3);
    HummedTunes stops = Check.told(PEOPLE + "stops hummed=3;");
    Edge.due("not yet", () -> stops.then(2, 3, 0), 1);
    Edge.due("by the rule, with breath left", () -> stops.then(2, 4, 0), -1);
  }

  private static void together() {
    Edge.by("First lines 3", "the one who stops last has the tune, and nobody has it, if the last ones stop together");
    Edge.due("1 has it", () -> behind(11).tune(0, 1), 1);
    Edge.due("nobody has it", () -> behind(12).tune(0, 1), -1);
    Edge.due("nobody hums it", () -> behind(12).tune(0, 2), 0);
  }

  private static void acts() {
    Edge.by("First lines 4", "hours, hushing, coughs, tunes that are sold for a cow, people who go elsewhere, all undone");
    HummedTunes x = behind(0);
    String before = Edge.state(x);
    Edge.due("an hour", () -> x.hours(1), 1);
    Edge.due("hushing", () -> x.hush(2), 1);
    Edge.due("a cough", () -> x.cough(0), 3);
    Edge.due("sold", () -> x.sell(1, 0), 2);
    Edge.due("elsewhere", () -> x.go(1, 20), 3);
    Edge.due("nobody has the first one", () -> x.tune(0, 1), -1);
    Edge.due("the buyer has the other one", () -> x.tune(1, 1), 0);
    Edge.due("the buyer's cow", () -> x.person(0, 3), 0);
    Edge.due("is the seller's", () -> x.person(2, 3), 3);
    for (int left = 4; left >= 0; left--) {
      Edge.due("undone", x::undo, left);
    }
    Edge.due("all is undone", () -> Edge.state(x), before);
  }

  private static void whatWillBe() {
    Edge.by("First lines 5", "who hums what when, whose a tune is then, who gets which first, how long it is silent");
    HummedTunes x = behind(0);
    String[] hums = {"hhhhs..hhhhs", "hhshhshhshhs", "hhhhhhshhhhh"};
    for (int person = 0; person < 3; person++) {
      for (int hour = 1; hour <= 12; hour++) {
        int p = person;
        int h = hour;
        int tune = hums[p].charAt(h - 1) == 'h' ? p / 2 : -1;
        Edge.due("then(" + p + ", " + h + ", 0)", () -> x.then(p, h, 0), tune);
      }
    }
    Edge.due("whose, behind 5", () -> x.whose(0, 5, 0), 0);
    Edge.due("whose, behind 6", () -> x.whose(0, 6, 0), 1);
    Edge.due("whose, behind 12", () -> x.whose(0, 12, 0), -1);
    Edge.due("1 gets it first", () -> x.gets(1, 0), 6);
    Edge.due("0 has it", () -> x.gets(0, 0), 0);
    Edge.due("2 never gets it", () -> x.gets(2, 0), -1);
    Edge.due("silent in the 6th and the 12th", () -> x.silent(0, 12), 2);
    Edge.due("and for good then", () -> x.silent(0, 60), 50);
    Edge.due("all three hum in the first", () -> x.loudest(12), 1);
    Edge.due("2 alone has one in the end", () -> x.later(12, 0), 2);
    Edge.due("to 1, and to nobody", () -> x.later(12, 1), 2);
  }

  private static void hearing() {
    Edge.by("First lines 6", "who hears whom, how many hums away, parts");
    HummedTunes x = behind(0);
    int[] hears = {2, 1, 0};
    for (int person = 0; person < 3; person++) {
      int p = person;
      Edge.due("person(" + p + ", 8)", () -> x.person(p, 8), hears[p]);
    }
    Edge.due("a hum away", () -> x.hums(0, 1), 1);
    Edge.due("out of hearing", () -> x.hums(0, 2), -1);
    Edge.due("two parts", () -> x.count(6), 2);
  }

  private static void whatOneCouldDo() {
    Edge.by("First lines 7", "how much breath one must have to own a tune, where to stand, whom to hush");
    HummedTunes x = behind(0);
    // With 1 or 2 both stop together by the 6th HOUR; with 3 one is the last in the 4th.
    Edge.due("breath", () -> x.toBreathe(0, 0, 6), 3);
    Edge.due("out of 1's hearing", () -> x.toStand(0, 6, 0), 9);
    Edge.due("one tune there", () -> x.toStand(0, 6, 1), 1);
    // With 1 hushed 0 is alone, and out of breath in the HOUR that comes.
    Edge.due("1 is to be hushed", () -> behind(4).toHush(0, 3), 1);
    Edge.due("nobody hums yet", () -> x.toHush(0, 6), -1);
    Edge.by("First lines 7", "by whose leaving one would have more, a round by which all are heard");
    Edge.due("1's", () -> x.without(0, 6), 1);
    Edge.due("2 has what there is", () -> x.without(2, 6), -1);
    Edge.due("how far", () -> x.round(-1), 20);
    Edge.due("first", () -> x.round(0), 0);
    Edge.due("behind it", () -> x.round(1), 1);
  }

  private static void whatWasSeen() {
    Edge.by("First lines 8", "whose breath was another by what was seen, where to look next");
    HummedTunes x = behind(0);
    Edge.due("0 hums nothing behind 3", () -> x.see(0, -1, 3), 1);
    Edge.due("0's breath was 1 or 2", () -> x.deep(0), 2);
    Edge.due("1 first", () -> x.deep(1), 1);
    Edge.due("not as it is", () -> x.deep(2), 0);
    // Behind 5 HOURS 0 and 1 hum TUNE 0 with 1, and nothing with 2.
    Edge.due("look at 0", () -> x.look(0), 0);
    Edge.due("tune 0 or nothing", () -> x.look(1), 2);
  }

  private static void thunder() {
    Edge.by("First lines 9", "how likely one has a tune in thunder");
    HummedTunes x = behind(1);
    // By any CLAP 0 and 1 stop together, and nobody gets TUNE 0 again.
    Edge.due("no clap in one hour", () -> x.thunder(0, 0, 1, 3), 7);
    Edge.due("none in two", () -> x.thunder(0, 0, 2, 3), 49);
    Edge.due("1 has it by none", () -> x.thunder(1, 0, 2, 3), 0);
    Edge.due("2 has the other one in any case", () -> x.thunder(2, 1, 2, 3), 100);
  }

  private static void aGame() {
    Edge.by("First lines 9", "a game of two who could stop");
    // Neither is hushed: 1 has TUNE 0 (-1, 4); 1 alone: 0 has it (4, -1); 0 alone, or both: nobody.
    Edge.due("one couple rests", () -> behind(1).game(0, 1, 0), 1);
    Edge.due("0 is hushed, 1 is not", () -> behind(1).game(0, 1, 1), 10);
    Edge.due("told from the other one", () -> behind(1).game(1, 0, 1), 1);
  }

  private static void years() {
    Edge.by("First lines 9", "years by a seed.");
    // From seed 0 on 0 is drawn, a COUGH, and by the next one TUNE 0.
    HummedTunes x = behind(1);
    Edge.due("it came to nobody", () -> x.years(0, 1, 0), 1);
    Edge.due("nobody has one", () -> x.years(0, 1, 1), 1);
    Edge.due("2 hums on", () -> x.years(0, 1, 2), 1);
    Edge.due("a cough where nobody hums", () -> behind(0).years(0, 1, 0), 0);
    Edge.due("all hum then", () -> behind(0).years(0, 1, 2), 3);
  }

  private static void constants() {
    Edge.by("Constants", "`NONE = -1`: There is none.");
    Edge.due("NONE", () -> HummedTunes.NONE, -1);
  }
}
