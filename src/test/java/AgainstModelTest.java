import java.util.Random;

/** Runs of drawn calls on the class and on the slow model: each answer must be the same. */
public final class AgainstModelTest {
  private static final int RUNS = 2500;
  private static final int TEXT_RUNS = 40000;

  private final Random random;
  private final HummedTunes x = new HummedTunes();
  private final Model m = new Model();
  private final int run;

  private AgainstModelTest(int run) {
    this.run = run;
    random = new Random(run);
  }

  public static void main(String[] args) {
    for (int run = 1; run <= RUNS && Check.wrong() == 0; run++) {
      new AgainstModelTest(run).callMany();
    }
    for (int run = 1; run <= TEXT_RUNS && Check.wrong() == 0; run++) {
      new AgainstModelTest(run).readOne();
    }
    Check.end("AgainstModelTest");
  }

  private void agree(String call, Check.Call mine, Check.Call due) {
    Check.same("run " + run + ": " + call, Check.outcome(mine), Check.outcome(due));
  }

  private void callMany() {
    tell(text(random.nextInt(5) > 0));
    int calls = random.nextInt(150);
    for (int i = 0; i < calls; i++) {
      callOne();
    }
  }

  private void readOne() {
    tell(spoil(text(random.nextBoolean())));
    for (int what = 0; what <= 14; what++) {
      int w = what;
      agree("count(" + w + ")", () -> x.count(w), () -> m.count(w));
    }
    agree("then", () -> x.then(0, 7, 0), () -> m.then(0, 7, 0));
    agree("later", () -> x.later(30, 1), () -> m.later(30, 1));
  }

  private void tell(String text) {
    String cut = text.length() > 700 ? text.substring(0, 700) : text;
    for (int at = 0; at < cut.length(); at += 20) {
      int[] f = new int[5];
      for (int i = 0; i < 5; i++) {
        f[i] = Check.fourBytes(cut, at + 4 * i);
      }
      agree("feed", () -> x.feed(f[0], f[1], f[2], f[3], f[4]), () -> m.feed(f));
    }
    agree("hills of " + cut, () -> x.hills(cut.length()), () -> m.hills(cut.length()));
    agree("fault of " + cut, () -> x.fault(), () -> m.fault());
  }

  // ---- texts

  private String text(boolean lively) {
    StringBuilder b = new StringBuilder();
    int people = lively ? 2 + random.nextInt(7) : random.nextInt(10);
    int span = 1 + random.nextInt(31);
    for (int i = 0; i < people; i++) {
      b.append(random.nextInt(3) == 0 ? "whistler " : "person ");
      b.append(1 + random.nextInt(random.nextBoolean() ? 4 : 20)).append(' ').append(random.nextInt(random.nextBoolean() ? 3 : 10));
      b.append(' ').append(random.nextInt(span)).append(' ').append(random.nextInt(4)).append(';');
    }
    int tunes = lively ? 1 + random.nextInt(6) : random.nextInt(8);
    for (int i = 0; i < tunes; i++) {
      b.append("tune ").append(random.nextInt(10));
      if (people > 0 && random.nextInt(4) > 0) {
        b.append(" of ").append(random.nextInt(people));
      }
      b.append(random.nextInt(4) == 0 ? ";\n" : ";");
    }
    if (random.nextBoolean()) {
      b.append("earshot ").append(random.nextInt(random.nextBoolean() ? 6 : 31)).append(';');
    }
    if (random.nextInt(3) > 0) {
      b.append("stops ").append(expr(true, 0)).append(';');
    }
    if (random.nextInt(8) > 0) {
      b.append("joins ").append(random.nextInt(3) == 0 ? "1" : expr(false, 0)).append(';');
    }
    return b.toString();
  }

  private String expr(boolean stops, int depth) {
    int kind = random.nextInt(depth > 4 ? 3 : 14);
    switch (kind) {
      case 0:
        return Integer.toString(random.nextInt(random.nextBoolean() ? 8 : 10000));
      case 1:
      case 2:
      case 3:
        String[] values = {"breath", "air", "with", "tunes", "hour", stops ? "hummed" : "far"};
        return values[random.nextInt(values.length)];
      case 4:
        return "(" + expr(stops, depth + 1) + ")";
      case 5:
        return "not " + expr(stops, depth + 1);
      default:
        String[] signs = {"+", "-", "*", "/", "<", "=", " and ", " or ", "-", "<"};
        String sign = signs[random.nextInt(signs.length)];
        boolean wrap = random.nextInt(3) == 0;
        String both = expr(stops, depth + 1) + sign + expr(stops, depth + 1);
        return wrap ? "(" + both + ")" : both;
    }
  }

  /** Puts pieces in, takes some out, or leaves it as it is. */
  private String spoil(String text) {
    StringBuilder b = new StringBuilder(text);
    String[] pieces = {"(", ")", ";", "not ", "or ", "and ", "of ", "0", "31", "12345", "00001", "person ", "tune 3;", "x",
        "earshot 4;", "stops 1;", "joins 1;", "<", "=", "+", "-", "*", "/", " ", "\n", "\t", "A", "\u00e9", "far ", "hummed ",
        "((((((", "not not not not not not ", "person 1 1 1 1;", "whistler 20 9 30 9;", "9999", "tune 9 of 7;", "((((((1))))))"};
    int spoils = random.nextInt(4);
    for (int i = 0; i < spoils; i++) {
      int at = random.nextInt(b.length() + 1);
      if (random.nextBoolean()) {
        b.insert(at, pieces[random.nextInt(pieces.length)]);
      } else if (random.nextInt(4) == 0) {
        b.setLength(at);
      } else {
        b.delete(at, Math.min(b.length(), at + 1 + random.nextInt(3)));
      }
    }
    return b.toString();
  }

  // ---- calls

  /** Mostly a number as given; now and then any int, the extremes above all. */
  private int orWild(int number) {
    int[] wild = {Integer.MIN_VALUE, Integer.MAX_VALUE, random.nextInt(), 1 << 30, -2, 256};
    return random.nextInt(80) == 0 ? wild[random.nextInt(wild.length)] : number;
  }

  private int person() {
    return orWild(random.nextInt(12) == 0 ? random.nextInt(12) - 2 : random.nextInt(4));
  }

  private int tune() {
    return orWild(random.nextInt(12) == 0 ? random.nextInt(10) - 2 : random.nextInt(3));
  }

  private int hours() {
    return orWild(random.nextInt(15) == 0 ? random.nextInt(70) - 4 : random.nextInt(25));
  }

  private int what(int many) {
    return orWild(random.nextInt(15) == 0 ? random.nextInt(many + 4) - 2 : random.nextInt(many));
  }

  private void callOne() {
    int kind = random.nextInt(100);
    if (kind < 30) {
      act();
    } else if (kind < 55) {
      ask();
    } else if (kind < 72) {
      foresee();
    } else if (kind < 97) {
      weigh();
    } else {
      retell();
    }
  }

  private void act() {
    int p = person();
    int t = tune();
    switch (random.nextInt(11)) {
      case 0:
      case 1:
      case 2:
      case 3:
        int many = orWild(random.nextInt(10) == 0 ? random.nextInt(25) - 2 : 1 + random.nextInt(3));
        agree("hours(" + many + ")", () -> x.hours(many), () -> m.hours(many));
        break;
      case 4:
        agree("hush(" + p + ")", () -> x.hush(p), () -> m.hush(p));
        break;
      case 5:
        agree("cough(" + t + ")", () -> x.cough(t), () -> m.cough(t));
        break;
      case 6:
        agree("sell(" + t + ", " + p + ")", () -> x.sell(t, p), () -> m.sell(t, p));
        break;
      case 7:
        int place = orWild(random.nextInt(35) - 2);
        agree("go(" + p + ", " + place + ")", () -> x.go(p, place), () -> m.go(p, place));
        break;
      case 8:
        agree("undo()", () -> x.undo(), () -> m.undo());
        break;
      default:
        int seenTune = orWild(random.nextInt(3) == 0 ? -1 : t);
        int seenHours = orWild(random.nextInt(8) == 0 ? random.nextInt(24) - 1 : 1 + random.nextInt(6));
        agree("see(" + p + ", " + seenTune + ", " + seenHours + ")", () -> x.see(p, seenTune, seenHours), () -> m.see(p, seenTune, seenHours));
        break;
    }
  }

  private void ask() {
    int p = person();
    int q = person();
    int t = tune();
    switch (random.nextInt(7)) {
      case 0:
      case 1:
        int c = what(15);
        agree("count(" + c + ")", () -> x.count(c), () -> m.count(c));
        break;
      case 2:
      case 3:
        int w = what(10);
        agree("person(" + p + ", " + w + ")", () -> x.person(p, w), () -> m.person(p, w));
        break;
      case 4:
        int v = what(3);
        agree("tune(" + t + ", " + v + ")", () -> x.tune(t, v), () -> m.tune(t, v));
        break;
      case 5:
        agree("hums(" + p + ", " + q + ")", () -> x.hums(p, q), () -> m.hums(p, q));
        break;
      default:
        agree("farthest(" + p + ")", () -> x.farthest(p), () -> m.farthest(p));
        break;
    }
  }

  private void foresee() {
    int p = person();
    int t = tune();
    int h = hours();
    int two = what(2);
    int three = what(3);
    switch (random.nextInt(6)) {
      case 0:
        agree("then(" + p + ", " + h + ", " + three + ")", () -> x.then(p, h, three), () -> m.then(p, h, three));
        break;
      case 1:
        agree("whose(" + t + ", " + h + ", " + two + ")", () -> x.whose(t, h, two), () -> m.whose(t, h, two));
        break;
      case 2:
        agree("gets(" + p + ", " + t + ")", () -> x.gets(p, t), () -> m.gets(p, t));
        break;
      case 3:
        agree("silent(" + t + ", " + h + ")", () -> x.silent(t, h), () -> m.silent(t, h));
        break;
      case 4:
        agree("loudest(" + h + ")", () -> x.loudest(h), () -> m.loudest(h));
        break;
      default:
        agree("later(" + h + ", " + two + ")", () -> x.later(h, two), () -> m.later(h, two));
        break;
    }
  }

  private void weigh() {
    int p = person();
    int q = person();
    int t = tune();
    int h = hours();
    int two = what(2);
    int three = what(3);
    switch (random.nextInt(10)) {
      case 0:
        agree("toBreathe(" + p + ", " + t + ", " + h + ")", () -> x.toBreathe(p, t, h), () -> m.toBreathe(p, t, h));
        break;
      case 1:
        agree("toStand(" + p + ", " + h + ", " + two + ")", () -> x.toStand(p, h, two), () -> m.toStand(p, h, two));
        break;
      case 2:
        agree("toHush(" + p + ", " + h + ")", () -> x.toHush(p, h), () -> m.toHush(p, h));
        break;
      case 3:
        agree("without(" + p + ", " + h + ")", () -> x.without(p, h), () -> m.without(p, h));
        break;
      case 4:
        int i = orWild(random.nextInt(9) - 2);
        agree("round(" + i + ")", () -> x.round(i), () -> m.round(i));
        break;
      case 5:
        agree("deep(" + three + ")", () -> x.deep(three), () -> m.deep(three));
        break;
      case 6:
        agree("look(" + two + ")", () -> x.look(two), () -> m.look(two));
        break;
      case 7:
        int claps = orWild(random.nextInt(8) == 0 ? random.nextInt(9) - 1 : 1 + random.nextInt(4));
        int tenths = orWild(random.nextInt(8) == 0 ? random.nextInt(14) - 1 : random.nextInt(11));
        agree("thunder(" + p + ", " + t + ", " + claps + ", " + tenths + ")", () -> x.thunder(p, t, claps, tenths),
            () -> m.thunder(p, t, claps, tenths));
        break;
      case 8:
        agree("game(" + p + ", " + q + ", " + two + ")", () -> x.game(p, q, two), () -> m.game(p, q, two));
        break;
      default:
        int seed = random.nextInt();
        int n = orWild(random.nextInt(10) == 0 ? random.nextInt(66) - 2 : random.nextInt(30));
        agree("years(" + seed + ", " + n + ", " + three + ")", () -> x.years(seed, n, three), () -> m.years(seed, n, three));
        break;
    }
  }

  private Object doing(Runnable what) {
    what.run();
    return "";
  }

  private void retell() {
    switch (random.nextInt(9)) {
      case 0:
      case 1:
      case 2:
        agree("image()", () -> doing(x::image), () -> doing(m::image));
        break;
      case 3:
      case 4:
      case 5:
        agree("restore()", () -> x.restore(), () -> m.restore());
        break;
      case 6:
        agree("forget()", () -> doing(x::forget), () -> doing(m::forget));
        break;
      case 7:
        int n = orWild(random.nextInt(30) - 3);
        agree("hills(" + n + ")", () -> x.hills(n), () -> m.hills(n));
        break;
      default:
        tell(spoil(text(true)));
        break;
    }
  }
}
