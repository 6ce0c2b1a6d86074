import java.lang.reflect.Method;
import java.util.ArrayList;
import java.util.Arrays;
import java.util.HashMap;
import java.util.List;
import java.util.Map;
import java.util.Set;

/**
 * A GranuleHall whose calls are written down, so that they can be done again on a new object: a test can compare then
 * what came of a call with what would be without it. Calls are named, and a boolean counts 1 or 0.
 */
final class Hall {
  /** The document promises nothing of what comes behind them. */
  private static final int MOST_CALLS = 512;
  private static final Map<String, Method> METHODS = methods();
  private static final Set<String> ACTS = Set.of(
      "move", "fetch", "put", "yield1", "off", "state", "ask", "call", "measure", "extend", "attest");

  private record Call(String name, int[] args) {
    @Override public String toString() {
      String list = Arrays.toString(args);
      return name + "(" + list.substring(1, list.length() - 1) + ")";
    }
  }

  final GranuleHall object;
  final int size;
  private final List<Call> calls = new ArrayList<>();
  private final List<Integer> answers = new ArrayList<>();
  private int used;

  Hall(int size) {
    this.size = size;
    this.object = new GranuleHall(size);
  }

  private static Map<String, Method> methods() {
    Map<String, Method> all = new HashMap<>();
    for (Method method : GranuleHall.class.getMethods()) {
      if (method.getDeclaringClass() == GranuleHall.class) {
        all.put(method.getName(), method);
      }
    }
    return all;
  }

  private static boolean isBoolean(String name) {
    return METHODS.get(name).getReturnType() == boolean.class;
  }

  private int invoke(String name, int[] args) {
    used++;
    if (used > MOST_CALLS) {
      throw new IllegalStateException("this test makes more than " + MOST_CALLS + " calls on one object");
    }
    Object[] boxed = new Object[args.length];
    for (int i = 0; i < args.length; i++) {
      boxed[i] = args[i];
    }
    try {
      Object answer = METHODS.get(name).invoke(object, boxed);
      return answer instanceof Boolean b ? (b ? 1 : 0) : (Integer) answer;
    } catch (ReflectiveOperationException e) {
      throw new IllegalStateException(new Call(name, args) + " threw", e);
    }
  }

  /** What a call answers. */
  int ask(String name, int... args) {
    int answer = invoke(name, args);
    calls.add(new Call(name, args));
    answers.add(answer);
    return answer;
  }

  int status() {
    return invoke("status", new int[0]);
  }

  /** Does what a test has to begin with, which must neither be refused nor FAULT. */
  Hall with(String name, int... args) {
    int answer = ask(name, args);
    boolean done = isBoolean(name) ? answer == 1 : answer != GranuleHall.NONE && !(answer == 1 && ACTS.contains(name));
    if (!done) {
      Due.is(new Call(name, args) + ", to begin with", 1, 0);
    }
    return this;
  }

  /** The call is done: it answers this, and STATUS is 0. */
  Hall done(int want, String name, int... args) {
    String call = new Call(name, args).toString();
    Due.is(call, want, ask(name, args));
    Due.is(call + ", status()", 0, status());
    return this;
  }

  Hall yes(String name, int... args) {
    return done(1, name, args);
  }

  /** What only tells answers this, and leaves STATUS. */
  Hall tells(int want, String name, int... args) {
    String call = new Call(name, args).toString();
    int before = status();
    Due.is(call, want, ask(name, args));
    Due.is(call + " leaves STATUS", before, status());
    return this;
  }

  /** The call answers NONE or false, leaves this STATUS, and changes nothing else. */
  Hall refused(int status, String name, int... args) {
    Hall without = again();
    String call = new Call(name, args).toString();
    Due.is(call, isBoolean(name) ? 0 : GranuleHall.NONE, ask(name, args));
    Due.is(call + ", status()", status, status());
    Twins.alike(call + " is refused and changes nothing", without, again(), 0);
    return this;
  }

  /** The act answers 1, STATUS is 0, and nothing happens but that a FAULT is counted. */
  Hall faults(String name, int... args) {
    Hall without = again();
    String call = new Call(name, args).toString();
    done(1, name, args);
    Twins.alike(call + " FAULTS and nothing happens", without, again(), 1);
    return this;
  }

  /** The act answers 2, STATUS is 0, no REC is RUNNING, and RUN has these WORDS, the others 0. */
  Hall exits(int run, int[] told, String name, int... args) {
    String call = new Call(name, args).toString();
    done(2, name, args);
    Due.is(call + ", count(7)", GranuleHall.NONE, ask("count", 7));
    for (int word = 0; word < 32; word++) {
      Due.is(call + ", RUN's word " + word, word < told.length ? told[word] : 0, ask("load", run, word));
    }
    return this;
  }

  /** A new object with the same calls done. */
  Hall again() {
    Hall hall = new Hall(size);
    for (Call call : calls) {
      hall.ask(call.name, call.args);
    }
    return hall;
  }

  int asked() {
    return calls.size();
  }

  /** The calls behind the first so many, each with its answer. */
  List<String> told(int from) {
    List<String> told = new ArrayList<>();
    for (int i = from; i < calls.size(); i++) {
      told.add(calls.get(i) + " = " + answers.get(i));
    }
    return told;
  }

  List<Integer> answers(int from) {
    return answers.subList(from, answers.size());
  }
}
