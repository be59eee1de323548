import java.util.ArrayList;
import java.util.Arrays;
import java.util.HashMap;
import java.util.HashSet;
import java.util.List;
import java.util.Map;
import java.util.NoSuchElementException;
import java.util.Set;
import java.util.function.ToIntFunction;

/**
 * The document told once more, as slowly and as plainly as can be, with the whole Java library:
 * what the class answers is held against it.
 */
final class Model {
  private static final int NONE = -1;

  private final StringBuilder tape = new StringBuilder();
  private int faultPlace = NONE;
  private World world = new World();
  private List<World> acts = new ArrayList<>();
  private List<int[]> seen = new ArrayList<>();
  private int[] status = new int[3];
  private Image image = null;

  private static final class Image {
    World world;
    List<World> acts;
    List<int[]> seen;
    int[] status;
  }

  // ---- people, tunes, an hour

  private static final class Person {
    int breath;
    int rest;
    int place;
    int cows;
    boolean whistler;
    int hums = NONE;
    int hummed = 0;
    /** Null: never stopped. */
    Integer quietHours = null;
    boolean left = false;

    Person copy() {
      Person p = new Person();
      p.breath = breath;
      p.rest = rest;
      p.place = place;
      p.cows = cows;
      p.whistler = whistler;
      p.hums = hums;
      p.hummed = hummed;
      p.quietHours = quietHours;
      p.left = left;
      return p;
    }

    boolean rested() {
      return quietHours == null || quietHours >= rest;
    }
  }

  private static final class World {
    List<Person> people = new ArrayList<>();
    List<Integer> airs = new ArrayList<>();
    List<Integer> owners = new ArrayList<>();
    int earshot = 5;
    ToIntFunction<Map<String, Integer>> stops = null;
    ToIntFunction<Map<String, Integer>> joins = null;
    int hour = 0;
    int taken = 0;

    World copy() {
      World w = new World();
      for (Person p : people) {
        w.people.add(p.copy());
      }
      w.airs.addAll(airs);
      w.owners.addAll(owners);
      w.earshot = earshot;
      w.stops = stops;
      w.joins = joins;
      w.hour = hour;
      return w;
    }

    boolean hears(int a, int b) {
      Person p = people.get(a);
      int reach = p.whistler ? earshot * 2 : earshot;
      return a != b && Math.abs(p.place - people.get(b).place) <= reach;
    }

    List<Integer> hummersOf(int tune) {
      List<Integer> who = new ArrayList<>();
      for (int p = 0; p < people.size(); p++) {
        if (people.get(p).hums == tune) {
          who.add(p);
        }
      }
      return who;
    }

    int owned(int person) {
      int many = 0;
      for (int owner : owners) {
        many += owner == person ? 1 : 0;
      }
      return many;
    }

    void own(int tune, int person) {
      if (owners.set(tune, person) != person) {
        taken++;
      }
    }

    void fallSilent(int person) {
      Person p = people.get(person);
      p.hums = NONE;
      p.hummed = 0;
      p.quietHours = 0;
    }

    void stopAtOnce(List<Integer> who, int tune) {
      for (int p : who) {
        fallSilent(p);
      }
      if (!who.isEmpty() && hummersOf(tune).isEmpty()) {
        own(tune, who.size() == 1 ? who.get(0) : NONE);
      }
    }

    void hush(int person) {
      int tune = people.get(person).hums;
      if (tune != NONE) {
        stopAtOnce(List.of(person), tune);
      }
    }

    void cough(int tune) {
      stopAtOnce(hummersOf(tune), tune);
    }

    Map<String, Integer> values(int person, int tune) {
      Map<String, Integer> v = new HashMap<>();
      List<Integer> others = hummersOf(tune);
      others.remove(Integer.valueOf(person));
      v.put("breath", people.get(person).breath);
      v.put("air", airs.get(tune));
      v.put("with", others.size());
      v.put("tunes", owned(person));
      v.put("hour", hour);
      v.put("hummed", people.get(person).hummed);
      int far = 1000;
      for (int other : others) {
        far = Math.min(far, Math.abs(people.get(person).place - people.get(other).place));
      }
      v.put("far", far);
      return v;
    }

    void passHour() {
      Set<Integer> stopping = new HashSet<>();
      for (int p = 0; p < people.size(); p++) {
        Person one = people.get(p);
        if (one.hums != NONE) {
          boolean stops = one.hummed >= one.breath;
          if (!stops && this.stops != null) {
            stops = this.stops.applyAsInt(values(p, one.hums)) > 0;
          }
          if (stops) {
            stopping.add(p);
          }
        }
      }
      for (int t = 0; t < airs.size(); t++) {
        List<Integer> who = hummersOf(t);
        who.retainAll(stopping);
        stopAtOnce(who, t);
      }
      for (int p = 0; p < people.size(); p++) {
        Person one = people.get(p);
        if (one.hums == NONE && !stopping.contains(p) && one.rested() && !one.left) {
          one.hums = choice(p);
        }
      }
      for (Person one : people) {
        if (one.hums != NONE) {
          one.hummed++;
        } else if (one.quietHours != null) {
          one.quietHours++;
        }
      }
      hour++;
    }

    int choice(int p) {
      for (int t = 0; t < airs.size(); t++) {
        if (owners.get(t) == p && hummersOf(t).isEmpty()) {
          return t;
        }
      }
      for (int t = 0; t < airs.size(); t++) {
        boolean heard = false;
        for (int other : hummersOf(t)) {
          heard |= hears(p, other);
        }
        if (heard && joins != null && joins.applyAsInt(values(p, t)) > 0) {
          return t;
        }
      }
      return NONE;
    }

    World after(int hours) {
      World w = copy();
      for (int i = 0; i < hours; i++) {
        w.passHour();
      }
      return w;
    }

    int[][] distances() {
      int n = people.size();
      int[][] d = new int[n][n];
      for (int a = 0; a < n; a++) {
        for (int b = 0; b < n; b++) {
          d[a][b] = a == b ? 0 : hears(b, a) ? 1 : 1000;
        }
      }
      for (int k = 0; k < n; k++) {
        for (int a = 0; a < n; a++) {
          for (int b = 0; b < n; b++) {
            d[a][b] = Math.min(d[a][b], d[a][k] + d[k][b]);
          }
        }
      }
      return d;
    }
  }

  private static int bits(List<Integer> which) {
    int b = 0;
    for (int i : which) {
      b |= 1 << i;
    }
    return b;
  }

  // ---- the text

  private static final class Fault extends RuntimeException {
    private static final long serialVersionUID = 1L;
    final int number;
    final int place;

    Fault(int number, int place) {
      this.number = number;
      this.place = place;
    }
  }

  private static final class Text {
    final List<String> tokens = new ArrayList<>();
    final List<Integer> places = new ArrayList<>();
    int at = 0;
    World out = new World();
    boolean earshotTold = false;
    Set<String> values;

    Text(String text) {
      int i = 0;
      while (i < text.length()) {
        int from = i;
        char c = text.charAt(i);
        i++;
        if (c == ' ' || c == '\n') {
          continue;
        }
        String same = Character.toString(c).matches("[a-z]") ? "[a-z]" : Character.toString(c).matches("[0-9]") ? "[0-9]" : null;
        while (same != null && i < text.length() && text.substring(i, i + 1).matches(same)) {
          i++;
        }
        tokens.add(text.substring(from, i));
        places.add(from);
      }
      tokens.add("");
      places.add(text.length());
    }

    String token() {
      return tokens.get(at);
    }

    Fault fault(int number) {
      return new Fault(number, places.get(at));
    }

    void take(String wanted) {
      if (!token().equals(wanted)) {
        throw fault(1);
      }
      at++;
    }

    boolean isNumber() {
      return token().matches("[0-9]+");
    }

    boolean isWord() {
      return token().matches("[a-z]+");
    }

    int number(int least, int most) {
      if (!isNumber()) {
        throw fault(1);
      }
      if (token().length() > 4) {
        throw fault(2);
      }
      int n = Integer.parseInt(token());
      if (n < least || n > most) {
        throw fault(2);
      }
      at++;
      return n;
    }

    World read() {
      while (!token().isEmpty()) {
        switch (token()) {
          case "person":
          case "whistler":
            person();
            break;
          case "tune":
            tune();
            break;
          case "earshot":
            if (earshotTold) {
              throw fault(5);
            }
            earshotTold = true;
            at++;
            out.earshot = number(0, 30);
            break;
          case "stops":
            if (out.stops != null) {
              throw fault(5);
            }
            at++;
            values = Set.of("breath", "air", "with", "tunes", "hour", "hummed");
            out.stops = expr(0);
            break;
          case "joins":
            if (out.joins != null) {
              throw fault(5);
            }
            at++;
            values = Set.of("breath", "air", "with", "tunes", "hour", "far");
            out.joins = expr(0);
            break;
          default:
            throw fault(1);
        }
        take(";");
      }
      return out;
    }

    void person() {
      if (out.people.size() == 8) {
        throw fault(2);
      }
      Person p = new Person();
      p.whistler = token().equals("whistler");
      at++;
      p.breath = number(1, 20);
      p.rest = number(0, 9);
      p.place = number(0, 30);
      p.cows = number(0, 9);
      out.people.add(p);
    }

    void tune() {
      if (out.airs.size() == 6) {
        throw fault(2);
      }
      at++;
      out.airs.add(number(0, 9));
      int owner = NONE;
      if (token().equals("of")) {
        at++;
        owner = number(0, 9999);
        if (owner >= out.people.size()) {
          at--;
          throw fault(3);
        }
      }
      out.owners.add(owner);
    }

    private static boolean holds(int n) {
      return n != 0;
    }

    ToIntFunction<Map<String, Integer>> expr(int within) {
      if (within == 6 && (isNumber() || isWord() || token().equals("("))) {
        throw fault(2);
      }
      ToIntFunction<Map<String, Integer>> all = and(within);
      while (token().equals("or")) {
        at++;
        ToIntFunction<Map<String, Integer>> left = all;
        ToIntFunction<Map<String, Integer>> right = and(within);
        all = v -> holds(left.applyAsInt(v)) || holds(right.applyAsInt(v)) ? 1 : 0;
      }
      return all;
    }

    ToIntFunction<Map<String, Integer>> and(int within) {
      ToIntFunction<Map<String, Integer>> all = not(within, 1);
      while (token().equals("and")) {
        at++;
        ToIntFunction<Map<String, Integer>> left = all;
        ToIntFunction<Map<String, Integer>> right = not(within, 1);
        all = v -> holds(left.applyAsInt(v)) && holds(right.applyAsInt(v)) ? 1 : 0;
      }
      return all;
    }

    ToIntFunction<Map<String, Integer>> not(int within, int whichNot) {
      if (token().equals("not")) {
        if (whichNot == 7) {
          throw fault(2);
        }
        at++;
        ToIntFunction<Map<String, Integer>> one = not(within, whichNot + 1);
        return v -> holds(one.applyAsInt(v)) ? 0 : 1;
      }
      ToIntFunction<Map<String, Integer>> left = sum(within);
      if (token().equals("<")) {
        at++;
        ToIntFunction<Map<String, Integer>> right = sum(within);
        return v -> left.applyAsInt(v) < right.applyAsInt(v) ? 1 : 0;
      }
      if (token().equals("=")) {
        at++;
        ToIntFunction<Map<String, Integer>> right = sum(within);
        return v -> left.applyAsInt(v) == right.applyAsInt(v) ? 1 : 0;
      }
      return left;
    }

    ToIntFunction<Map<String, Integer>> sum(int within) {
      ToIntFunction<Map<String, Integer>> all = product(within);
      while (token().equals("+") || token().equals("-")) {
        boolean more = token().equals("+");
        at++;
        ToIntFunction<Map<String, Integer>> left = all;
        ToIntFunction<Map<String, Integer>> right = product(within);
        all = v -> more ? left.applyAsInt(v) + right.applyAsInt(v) : left.applyAsInt(v) - right.applyAsInt(v);
      }
      return all;
    }

    ToIntFunction<Map<String, Integer>> product(int within) {
      ToIntFunction<Map<String, Integer>> all = part(within);
      while (token().equals("*") || token().equals("/")) {
        boolean times = token().equals("*");
        at++;
        ToIntFunction<Map<String, Integer>> left = all;
        ToIntFunction<Map<String, Integer>> right = part(within);
        all = v -> times ? left.applyAsInt(v) * right.applyAsInt(v) : cut(left.applyAsInt(v), right.applyAsInt(v));
      }
      return all;
    }

    private static int cut(int a, int b) {
      return b == 0 ? 0 : (int) ((long) a / b);
    }

    ToIntFunction<Map<String, Integer>> part(int within) {
      if (isNumber()) {
        int n = number(0, 9999);
        return v -> n;
      }
      if (isWord()) {
        String word = token();
        if (!values.contains(word)) {
          throw fault(3);
        }
        at++;
        return v -> v.get(word);
      }
      take("(");
      ToIntFunction<Map<String, Integer>> inner = expr(within + 1);
      take(")");
      return inner;
    }
  }

  // ---- the calls

  int feed(int... fives) {
    if (tape.length() + 20 > 700) {
      return NONE;
    }
    for (int five : fives) {
      for (int shift = 24; shift >= 0; shift -= 8) {
        tape.append((char) (five >>> shift & 255));
      }
    }
    return tape.length();
  }

  int hills(int n) {
    fit(n >= 0 && n <= tape.length());
    String text = tape.substring(0, n);
    tape.setLength(0);
    try {
      world = new Text(text).read();
    } catch (Fault f) {
      faultPlace = f.place;
      status[0]++;
      return f.number;
    }
    faultPlace = NONE;
    acts = new ArrayList<>();
    seen = new ArrayList<>();
    image = null;
    return 0;
  }

  int fault() {
    return faultPlace;
  }

  int count(int what) {
    exist(what >= 0 && what <= 14);
    int n = world.people.size();
    List<Integer> which = new ArrayList<>();
    switch (what) {
      case 0:
        return n;
      case 1:
        return world.airs.size();
      case 2:
        return world.hour;
      case 3:
        return world.earshot;
      case 4:
        for (int p = 0; p < n; p++) {
          if (world.people.get(p).hums != NONE) {
            which.add(p);
          }
        }
        return bits(which);
      case 5:
        for (int t = 0; t < world.airs.size(); t++) {
          if (world.owners.get(t) == NONE) {
            which.add(t);
          }
        }
        return bits(which);
      case 6:
        return parts();
      case 7:
        return allHear();
      case 8:
        return world.people.stream().mapToInt(p -> p.cows).sum();
      case 9:
        return acts.size();
      case 10:
        return seen.size();
      case 11:
        return tape.length();
      default:
        return status[what - 12];
    }
  }

  private int parts() {
    int[][] d = world.distances();
    Set<String> groups = new HashSet<>();
    for (int a = 0; a < d.length; a++) {
      List<Integer> group = new ArrayList<>();
      for (int b = 0; b < d.length; b++) {
        if (d[a][b] < 1000 && d[b][a] < 1000) {
          group.add(b);
        }
      }
      groups.add(group.toString());
    }
    return groups.size();
  }

  private int allHear() {
    int n = world.people.size();
    int best = NONE;
    for (int size = 0; size <= n && best == NONE; size++) {
      for (int set = 0; set < 1 << n && best == NONE; set++) {
        boolean all = Integer.bitCount(set) == size;
        for (int p = 0; p < n; p++) {
          boolean one = (set & 1 << p) != 0;
          for (int q = 0; q < n; q++) {
            one |= (set & 1 << q) != 0 && world.hears(p, q);
          }
          all &= one;
        }
        best = all ? set : NONE;
      }
    }
    return best;
  }

  int person(int person, int what) {
    exist(isPerson(person) && what >= 0 && what <= 9);
    Person p = world.people.get(person);
    List<Integer> which = new ArrayList<>();
    switch (what) {
      case 0:
        return p.breath;
      case 1:
        return p.rest;
      case 2:
        return p.place;
      case 3:
        return p.cows;
      case 4:
        return p.hums;
      case 5:
        return p.hummed;
      case 6:
        for (int t = 0; t < world.owners.size(); t++) {
          if (world.owners.get(t) == person) {
            which.add(t);
          }
        }
        return bits(which);
      case 7:
        return p.rested() ? 1 : 0;
      case 8:
        for (int q = 0; q < world.people.size(); q++) {
          if (world.hears(person, q)) {
            which.add(q);
          }
        }
        return bits(which);
      default:
        return p.whistler ? 1 : 0;
    }
  }

  int tune(int tune, int what) {
    exist(isTune(tune) && what >= 0 && what <= 2);
    return what == 0 ? world.airs.get(tune) : what == 1 ? world.owners.get(tune) : bits(world.hummersOf(tune));
  }

  private int refuse(int which) {
    status[which]++;
    return NONE;
  }

  private void keep() {
    acts.add(world.copy());
    if (acts.size() > 40) {
      acts.remove(0);
    }
  }

  int hours(int many) {
    if (many < 1 || many > 20 || world.hour + many > 999) {
      return refuse(1);
    }
    keep();
    world = world.after(many);
    return world.hour;
  }

  int hush(int person) {
    exist(isPerson(person));
    int tune = world.people.get(person).hums;
    if (tune == NONE) {
      return refuse(1);
    }
    keep();
    world.hush(person);
    return tune;
  }

  int cough(int tune) {
    exist(isTune(tune));
    int who = bits(world.hummersOf(tune));
    if (who == 0) {
      return refuse(1);
    }
    keep();
    world.cough(tune);
    return who;
  }

  int sell(int tune, int person) {
    exist(isTune(tune) && isPerson(person));
    int owner = world.owners.get(tune);
    boolean hummed = !world.hummersOf(tune).isEmpty();
    if (owner == NONE || owner == person || hummed || world.people.get(person).cows < 1) {
      return refuse(1);
    }
    keep();
    world.owners.set(tune, person);
    world.people.get(person).cows--;
    world.people.get(owner).cows++;
    return owner;
  }

  int go(int person, int place) {
    exist(isPerson(person));
    int was = world.people.get(person).place;
    if (place < 0 || place > 30 || place == was) {
      return refuse(1);
    }
    keep();
    world.people.get(person).place = place;
    return was;
  }

  int undo() {
    if (acts.isEmpty()) {
      return NONE;
    }
    world = acts.remove(acts.size() - 1).copy();
    return acts.size();
  }

  int then(int person, int hours, int what) {
    exist(isPerson(person) && what >= 0 && what <= 2);
    fit(hours >= 0 && hours <= 60);
    World w = world.after(hours);
    return what == 0 ? w.people.get(person).hums : what == 1 ? w.people.get(person).hummed : w.owned(person);
  }

  int whose(int tune, int hours, int what) {
    exist(isTune(tune) && what >= 0 && what <= 1);
    fit(hours >= 0 && hours <= 60);
    World w = world.after(hours);
    return what == 0 ? w.owners.get(tune) : bits(w.hummersOf(tune));
  }

  int gets(int person, int tune) {
    exist(isPerson(person) && isTune(tune));
    World w = world.copy();
    for (int k = 0; k <= 60; k++) {
      if (w.owners.get(tune) == person) {
        return k;
      }
      w.passHour();
    }
    return NONE;
  }

  int silent(int tune, int hours) {
    exist(isTune(tune));
    fit(hours >= 1 && hours <= 60);
    int many = 0;
    World w = world.copy();
    for (int k = 1; k <= hours; k++) {
      w.passHour();
      many += w.hummersOf(tune).isEmpty() ? 1 : 0;
    }
    return many;
  }

  int loudest(int hours) {
    fit(hours >= 1 && hours <= 60);
    int[] loud = new int[hours + 1];
    World w = world.copy();
    for (int k = 1; k <= hours; k++) {
      w.passHour();
      loud[k] = (int) w.people.stream().filter(p -> p.hums != NONE).count();
    }
    int most = Arrays.stream(loud, 1, hours + 1).max().getAsInt();
    for (int k = 1; k <= hours; k++) {
      if (loud[k] == most) {
        return k;
      }
    }
    throw new AssertionError();
  }

  int later(int hours, int what) {
    exist(what == 0 || what == 1);
    fit(hours >= 0 && hours <= 60);
    World w = world.after(hours);
    if (what == 1) {
      return w.taken;
    }
    int best = NONE;
    for (int p = w.people.size() - 1; p >= 0; p--) {
      if (best == NONE || w.owned(p) >= w.owned(best)) {
        best = p;
      }
    }
    return best;
  }

  int hums(int person, int other) {
    exist(isPerson(person) && isPerson(other));
    int d = world.distances()[person][other];
    return d >= 1000 ? NONE : d;
  }

  int farthest(int person) {
    exist(isPerson(person));
    int[] d = world.distances()[person];
    int best = NONE;
    for (int q = d.length - 1; q >= 0; q--) {
      if (q != person && d[q] < 1000 && (best == NONE || d[q] >= d[best])) {
        best = q;
      }
    }
    return best;
  }

  int toBreathe(int person, int tune, int hours) {
    exist(isPerson(person) && isTune(tune));
    fit(hours >= 1 && hours <= 60);
    for (int b = 1; b <= 20; b++) {
      World w = world.copy();
      w.people.get(person).breath = b;
      if (w.after(hours).owners.get(tune) == person) {
        return b;
      }
    }
    return NONE;
  }

  int toStand(int person, int hours, int what) {
    exist(isPerson(person) && (what == 0 || what == 1));
    fit(hours >= 1 && hours <= 60);
    int best = 0;
    int most = NONE;
    for (int place = 30; place >= 0; place--) {
      World w = world.copy();
      w.people.get(person).place = place;
      int owned = w.after(hours).owned(person);
      if (owned >= most) {
        most = owned;
        best = place;
      }
    }
    return what == 0 ? best : most;
  }

  int toHush(int person, int hours) {
    exist(isPerson(person));
    fit(hours >= 1 && hours <= 60);
    int most = world.after(hours).owned(person);
    int best = NONE;
    for (int q = 0; q < world.people.size(); q++) {
      World w = world.copy();
      w.hush(q);
      int owned = world.people.get(q).hums == NONE ? NONE : w.after(hours).owned(person);
      if (owned > most) {
        most = owned;
        best = q;
      }
    }
    return best;
  }

  int without(int person, int hours) {
    exist(isPerson(person));
    fit(hours >= 1 && hours <= 60);
    int most = world.after(hours).owned(person);
    int best = NONE;
    for (int q = 0; q < world.people.size(); q++) {
      World w = world.copy();
      w.hush(q);
      w.people.get(q).left = true;
      int owned = q == person ? NONE : w.after(hours).owned(person);
      if (owned > most) {
        most = owned;
        best = q;
      }
    }
    return best;
  }

  private static void rows(List<Integer> row, List<Integer> rest, List<List<Integer>> all) {
    if (rest.isEmpty()) {
      all.add(row);
    }
    for (Integer next : rest) {
      List<Integer> longer = new ArrayList<>(row);
      longer.add(next);
      List<Integer> fewer = new ArrayList<>(rest);
      fewer.remove(next);
      rows(longer, fewer, all);
    }
  }

  int round(int i) {
    List<Integer> owned = new ArrayList<>();
    for (int t = 0; t < world.owners.size(); t++) {
      if (world.owners.get(t) != NONE) {
        owned.add(t);
      }
    }
    exist(i >= NONE && i < owned.size());
    List<List<Integer>> all = new ArrayList<>();
    rows(List.of(), owned, all);
    List<Integer> best = null;
    int least = 0;
    for (List<Integer> row : all) {
      int far = 0;
      for (int k = 1; k < row.size(); k++) {
        far += Math.abs(world.people.get(world.owners.get(row.get(k))).place
            - world.people.get(world.owners.get(row.get(k - 1))).place);
      }
      if (best == null || far < least) {
        best = row;
        least = far;
      }
    }
    return i == NONE ? least : best.get(i);
  }

  int see(int person, int tune, int hours) {
    exist(isPerson(person));
    if (seen.size() == 8 || tune != NONE && !isTune(tune) || hours < 1 || hours > 20) {
      return refuse(2);
    }
    seen.add(new int[] {person, tune, hours});
    return seen.size();
  }

  private boolean agrees(World w) {
    for (int[] s : seen) {
      if (w.after(s[2]).people.get(s[0]).hums != s[1]) {
        return false;
      }
    }
    return true;
  }

  /** Rows of who and BREATH. */
  private List<int[]> deepOnes() {
    List<int[]> all = new ArrayList<>();
    for (int p = 0; p < world.people.size(); p++) {
      for (int b = 1; b <= 20; b++) {
        if (b != world.people.get(p).breath && agrees(breathing(p, b))) {
          all.add(new int[] {p, b});
        }
      }
    }
    return all;
  }

  private World breathing(int person, int breath) {
    World w = world.copy();
    w.people.get(person).breath = breath;
    return w;
  }

  int deep(int what) {
    exist(what >= 0 && what <= 2);
    if (what == 2) {
      return agrees(world) ? 1 : 0;
    }
    List<int[]> all = deepOnes();
    return what == 0 ? all.size() : all.isEmpty() ? NONE : 100 * all.get(0)[0] + all.get(0)[1];
  }

  int look(int what) {
    exist(what == 0 || what == 1);
    List<Set<Integer>> unlike = new ArrayList<>();
    for (int p = 0; p < world.people.size(); p++) {
      unlike.add(new HashSet<>());
    }
    List<int[]> all = deepOnes();
    for (int[] one : all) {
      World w = breathing(one[0], one[1]).after(5);
      for (int p = 0; p < world.people.size(); p++) {
        unlike.get(p).add(w.people.get(p).hums);
      }
    }
    if (all.isEmpty()) {
      return what == 0 ? NONE : 0;
    }
    int best = 0;
    for (int p = 1; p < unlike.size(); p++) {
      if (unlike.get(p).size() > unlike.get(best).size()) {
        best = p;
      }
    }
    return what == 0 ? best : unlike.get(best).size();
  }

  void forget() {
    seen.clear();
  }

  int thunder(int person, int tune, int hours, int tenths) {
    exist(isPerson(person) && isTune(tune));
    fit(hours >= 1 && hours <= 5 && tenths >= 0 && tenths <= 10);
    return likely(world, person, tune, hours, tenths);
  }

  private static int likely(World w, int person, int tune, int hours, int tenths) {
    if (hours == 0) {
      return w.owners.get(tune) == person ? 1 : 0;
    }
    World loud = w.copy();
    for (int t = 0; t < loud.airs.size(); t++) {
      loud.cough(t);
    }
    return tenths * likely(loud.after(1), person, tune, hours - 1, tenths)
        + (10 - tenths) * likely(w.after(1), person, tune, hours - 1, tenths);
  }

  int game(int person, int other, int what) {
    exist(isPerson(person) && isPerson(other) && (what == 0 || what == 1));
    fit(person != other);
    int rows = world.people.get(person).hums == NONE ? 1 : 2;
    int columns = world.people.get(other).hums == NONE ? 1 : 2;
    int[][] first = new int[rows][columns];
    int[][] second = new int[rows][columns];
    for (int a = 0; a < rows; a++) {
      for (int b = 0; b < columns; b++) {
        World w = world.copy();
        boolean turned = other < person;
        if (turned && b == 1) {
          w.hush(other);
        }
        if (a == 1) {
          w.hush(person);
        }
        if (!turned && b == 1) {
          w.hush(other);
        }
        w = w.after(8);
        first[a][b] = 4 * w.owned(person) - w.owned(other);
        second[a][b] = 4 * w.owned(other) - w.owned(person);
      }
    }
    List<Integer> rests = new ArrayList<>();
    for (int a = 0; a < rows; a++) {
      for (int b = 0; b < columns; b++) {
        boolean still = true;
        for (int c = 0; c < rows; c++) {
          still &= first[c][b] <= first[a][b];
        }
        for (int d = 0; d < columns; d++) {
          still &= second[a][d] <= second[a][b];
        }
        if (still) {
          rests.add(10 * a + b);
        }
      }
    }
    return what == 0 ? rests.size() : rests.isEmpty() ? NONE : rests.get(0);
  }

  private static final class Seed {
    int seed;

    int draw(int n) {
      seed = (int) (seed * 1103515245L + 12345L);
      return (seed & 0x7fff0000) / 65536 % n;
    }
  }

  int years(int seed, int n, int what) {
    exist(what >= 0 && what <= 2);
    fit(n >= 0 && n <= 60);
    Seed s = new Seed();
    s.seed = seed;
    World w = world.copy();
    for (int i = 0; i < n; i++) {
      switch (s.draw(7)) {
        case 0:
          if (!w.airs.isEmpty()) {
            w.cough(s.draw(w.airs.size()));
          }
          break;
        case 1:
          if (!w.people.isEmpty()) {
            w.hush(s.draw(w.people.size()));
          }
          break;
        case 2:
          if (!w.people.isEmpty()) {
            Person p = w.people.get(s.draw(w.people.size()));
            p.place = s.draw(31);
          }
          break;
        default:
          break;
      }
      w.passHour();
    }
    return what == 0 ? w.taken : what == 1 ? w.owned(NONE) : (int) w.people.stream().filter(p -> p.hums != NONE).count();
  }

  void image() {
    image = new Image();
    image.world = world.copy();
    image.acts = new ArrayList<>(acts);
    image.seen = new ArrayList<>(seen);
    image.status = status.clone();
  }

  boolean restore() {
    if (image == null) {
      return false;
    }
    world = image.world.copy();
    acts = new ArrayList<>(image.acts);
    seen = new ArrayList<>(image.seen);
    status = image.status.clone();
    return true;
  }

  private boolean isPerson(int person) {
    return person >= 0 && person < world.people.size();
  }

  private boolean isTune(int tune) {
    return tune >= 0 && tune < world.airs.size();
  }

  private static void exist(boolean is) {
    if (!is) {
      throw new NoSuchElementException();
    }
  }

  private static void fit(boolean is) {
    if (!is) {
      throw new IllegalArgumentException();
    }
  }
}
