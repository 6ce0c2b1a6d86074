import java.lang.reflect.Constructor;
import java.lang.reflect.Field;
import java.lang.reflect.Method;
import java.lang.reflect.Modifier;
import java.util.HashSet;
import java.util.Set;
import java.util.TreeSet;

/** The public face is the document's: its constant, constructor and methods, and no other member to be seen. */
final class FaceTest {
  static final String[] FACE = {
    "int load(int,int)", "boolean store(int,int,int)", "boolean delegate(int)", "boolean undelegate(int)",
    "boolean create(int,int)", "boolean activate(int)", "boolean destroy(int)", "int rec(int,int,int)",
    "boolean end(int)", "boolean table(int,int,int,int)", "boolean untable(int,int,int)", "boolean fold(int,int,int)",
    "int ripas(int,int)", "boolean data(int,int,int,int)", "boolean unknown(int,int,int)", "int undata(int,int)",
    "boolean map(int,int,int)", "int unmap(int,int)", "boolean enter(int,int)", "int change(int)", "int move(int,int)",
    "int fetch(int,int,int)", "int put(int,int,int)", "int yield1()", "int off()", "int state(int)",
    "int ask(int,int,int)", "int call(int)", "int measure(int)", "int extend(int)", "int attest(int)",
    "int granule(int,int)", "int realm(int,int)", "int walk(int,int,int,int)", "int context(int,int)",
    "int measured(int,int,int)", "int count(int)", "int status()", "int astray()"
  };

  public static void main(String[] args) {
    Due.yes("the class is public and final",
        Modifier.isPublic(GranuleHall.class.getModifiers()) && Modifier.isFinal(GranuleHall.class.getModifiers()));
    Due.is("NONE", -1, GranuleHall.NONE);
    methods();
    fieldsAndConstructors();
    Due.end("FaceTest");
  }

  private static void methods() {
    Set<String> seen = new TreeSet<>();
    Set<String> names = new HashSet<>();
    for (Method method : GranuleHall.class.getDeclaredMethods()) {
      if (!Modifier.isPrivate(method.getModifiers()) && !method.isSynthetic()) {
        seen.add(signature(method));
        names.add(method.getName());
      }
    }
    for (String want : FACE) {
      Due.yes("the face has " + want, seen.remove(want));
    }
    Due.yes("the face has no more: " + seen, seen.isEmpty());
    for (Method method : GranuleHall.class.getDeclaredMethods()) {
      if (Modifier.isPrivate(method.getModifiers())) {
        Due.no("a private method bears a public name: " + method, names.contains(method.getName()));
      }
    }
  }

  private static String signature(Method method) {
    StringBuilder text = new StringBuilder(method.getReturnType() + " " + method.getName() + "(");
    for (Class<?> type : method.getParameterTypes()) {
      text.append(text.charAt(text.length() - 1) == '(' ? "" : ",").append(type);
    }
    return text.append(")").toString();
  }

  private static void fieldsAndConstructors() {
    for (Field field : GranuleHall.class.getDeclaredFields()) {
      boolean seen = !Modifier.isPrivate(field.getModifiers()) && !field.isSynthetic();
      Due.is("field " + field.getName() + " is to be seen", field.getName().equals("NONE") ? 1 : 0, seen ? 1 : 0);
      if (Modifier.isStatic(field.getModifiers())) {
        Due.yes("static field " + field.getName() + " is final", Modifier.isFinal(field.getModifiers()));
      }
    }
    Constructor<?>[] constructors = GranuleHall.class.getDeclaredConstructors();
    Due.is("constructors", 1, constructors.length);
    Due.is("its parameters", 1, constructors[0].getParameterCount());
    for (Class<?> inside : GranuleHall.class.getDeclaredClasses()) {
      int is = inside.getModifiers();
      Due.yes(inside + " is static, not public", Modifier.isStatic(is) && !Modifier.isPublic(is));
    }
  }
}
