import java.lang.reflect.Constructor;
import java.lang.reflect.Field;
import java.lang.reflect.Method;
import java.lang.reflect.Modifier;
import java.util.ArrayList;
import java.util.List;
import java.util.TreeSet;

/** The public face, and LANGUAGE.md's rule 1. */
public final class FaceTest {
  private static final String[] METHODS = {
    "int teams(int)", "int ground(int,int,int)", "int swap(int,int)", "int turn(int,int)",
    "int exchange(int,int)", "int bar(int,int)", "int rate(int,int)", "int kind(int)",
    "int feed(int)", "int read()", "int step(int,int)", "int game(int,int,int)",
    "int of(int,int,int)", "int season(int,int,int)", "int when(int,int)", "int about(int,int)",
    "int carried(int,int)", "int loop(int,int,int)", "int told(int)", "int rateOf(int)",
    "long wear(int,int)", "long cost()", "long would(int,int)", "long spread(int)",
    "int see(int,int,boolean)", "int fits()", "long odds(int,int)", "long mean(int)",
    "int event(int,int)", "long after(int)", "int book(int,int)", "int looked()",
    "int judge(int,int,int)", "int image()", "int undo()", "int count(int)",
    "int tape(int,int,int)", "int item(int,int,long)", "long peek(int,int)",
    "int shift(int,int,int,int,int)"
  };

  public static void main(String[] args) {
    constants();
    methods();
    rest();
    Check.end("FaceTest");
  }

  private static void constants() {
    Check.due("NONE", HomeRounds.NONE, -1);
    Check.due("BAD", HomeRounds.BAD, -2);
    Check.due("STATE", HomeRounds.STATE, -3);
    Check.due("FULL", HomeRounds.FULL, -4);
    Check.due("NO", HomeRounds.NO, Long.MIN_VALUE);
    List<String> names = new ArrayList<>();
    for (Field field : HomeRounds.class.getDeclaredFields()) {
      if (Modifier.isPublic(field.getModifiers())) {
        names.add(field.getName());
      }
    }
    Check.due("public fields " + names, new TreeSet<>(names).equals(
        new TreeSet<>(List.of("NONE", "BAD", "STATE", "FULL", "NO"))));
  }

  private static void methods() {
    TreeSet<String> due = new TreeSet<>(List.of(METHODS));
    TreeSet<String> got = new TreeSet<>();
    TreeSet<String> publicNames = new TreeSet<>();
    for (Method method : HomeRounds.class.getDeclaredMethods()) {
      if (Modifier.isPublic(method.getModifiers())) {
        got.add(told(method));
        publicNames.add(method.getName());
      }
    }
    Check.due("promises tell 40 methods", due.size(), 40);
    Check.due("public methods " + got, got.equals(due));
    for (Method method : HomeRounds.class.getDeclaredMethods()) {
      if (!Modifier.isPublic(method.getModifiers())) {
        Check.due("private " + method, Modifier.isPrivate(method.getModifiers()));
        Check.due("name of " + method, !publicNames.contains(method.getName()));
      }
    }
    for (Class<?> inside : HomeRounds.class.getDeclaredClasses()) {
      for (Method method : inside.getDeclaredMethods()) {
        Check.due("name of " + method, !publicNames.contains(method.getName()));
      }
    }
  }

  private static String told(Method method) {
    StringBuilder told = new StringBuilder();
    told.append(method.getReturnType().getName()).append(' ').append(method.getName()).append('(');
    String between = "";
    for (Class<?> type : method.getParameterTypes()) {
      told.append(between).append(type.getName());
      between = ",";
    }
    return told.append(')').toString();
  }

  private static void rest() {
    Class<?> face = HomeRounds.class;
    Check.due("final", Modifier.isFinal(face.getModifiers()));
    Check.due("public", Modifier.isPublic(face.getModifiers()));
    Check.due("constructors", face.getDeclaredConstructors().length, 1);
    for (Constructor<?> made : face.getDeclaredConstructors()) {
      Check.due("its parameters", made.getParameterCount(), 0);
      Check.due("it is public", Modifier.isPublic(made.getModifiers()));
    }
    for (Field field : face.getDeclaredFields()) {
      int modifiers = field.getModifiers();
      Check.due("hidden " + field, Modifier.isPublic(modifiers) || Modifier.isPrivate(modifiers));
      Check.due("static is final " + field,
          !Modifier.isStatic(modifiers) || Modifier.isFinal(modifiers));
    }
    for (Class<?> inside : face.getDeclaredClasses()) {
      Check.due("static " + inside, Modifier.isStatic(inside.getModifiers()));
      Check.due("not public " + inside, !Modifier.isPublic(inside.getModifiers())
          && !Modifier.isProtected(inside.getModifiers()));
    }
    Check.due("at most twelve classes", face.getDeclaredClasses().length <= 11);
  }
}
