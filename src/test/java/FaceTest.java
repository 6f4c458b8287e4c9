import java.lang.reflect.Constructor;
import java.lang.reflect.Field;
import java.lang.reflect.Method;
import java.lang.reflect.Modifier;
import java.util.ArrayList;
import java.util.Arrays;
import java.util.List;
import java.util.Set;
import java.util.TreeSet;

/** The public face is the document's and nothing more. */
public final class FaceTest {
  private static final String[] FACE = {
    "int feed(int,int,int,int,int)", "int pit(int)", "int law(int,int)", "int work(int)", "int book(int)",
    "int fault()", "int undo()", "int told(int)", "int cell(int,int,int)", "int kind(int,int)", "int order(int,int)",
    "int note(int,int)", "int lacks(int)", "int can(int,int)", "boolean falls(int,int)", "int risks(int,int)",
    "int harm(int,int)", "long best(int,int)", "int way(int,int,int)", "long hold(int)", "int fill(int)",
    "int tap(int)", "int moved(int,int)", "int fits()", "int next(int)", "int canon(int,int,int)",
    "int owners(int,int,int)", "int face(int,int)", "int level()", "int pick()", "int decade(int,int,int,int)",
    "int span(int,int,int,int,int)", "int sums(int)", "int open(int)", "int image()", "int restore()",
    "int status(int)", "int count(int)",
  };

  public static void main(String[] args) {
    Kit kit = new Kit();
    Class<?> face = LullabyPit.class;
    kit.yes("public and final", Modifier.isPublic(face.getModifiers()) && Modifier.isFinal(face.getModifiers()));
    Set<String> due = new TreeSet<>(Arrays.asList(FACE));
    Set<String> got = new TreeSet<>();
    Set<String> names = new TreeSet<>();
    List<Class<?>> classes = new ArrayList<>(List.of(face.getDeclaredClasses()));
    for (Method m : face.getDeclaredMethods()) {
      if (!Modifier.isPrivate(m.getModifiers())) {
        kit.yes(m + " is public", Modifier.isPublic(m.getModifiers()) && !Modifier.isStatic(m.getModifiers()));
        got.add(signature(m));
        names.add(m.getName());
      }
    }
    kit.yes("methods: " + got, got.equals(due));
    for (Constructor<?> c : face.getDeclaredConstructors()) {
      kit.yes(c + " is public", Modifier.isPublic(c.getModifiers()) && c.getParameterCount() == 0);
    }
    for (Field f : face.getDeclaredFields()) {
      kit.yes(f + " is NONE or private", Modifier.isPrivate(f.getModifiers()) || f.getName().equals("NONE"));
    }
    kit.same("NONE", LullabyPit.NONE, -1);
    for (Class<?> c : classes) {
      int m = c.getModifiers();
      kit.yes(c + " is static and not public", Modifier.isStatic(m) && !Modifier.isPublic(m) && !Modifier.isProtected(m));
    }
    classes.add(face);
    kit.yes("twelve classes at most", classes.size() <= 12);
    for (Class<?> c : classes) {
      looked(kit, c, names);
    }
    kit.end();
  }

  private static String signature(Method m) {
    StringBuilder s = new StringBuilder(m.getReturnType().getName()).append(' ').append(m.getName()).append('(');
    for (Class<?> p : m.getParameterTypes()) {
      s.append(s.charAt(s.length() - 1) == '(' ? "" : ",").append(p.getName());
    }
    return s.append(')').toString();
  }

  private static void looked(Kit kit, Class<?> c, Set<String> names) {
    int fields = 0;
    for (Field f : c.getDeclaredFields()) {
      boolean fixed = Modifier.isStatic(f.getModifiers());
      kit.yes(f + " is final, if it is static", !fixed || Modifier.isFinal(f.getModifiers()));
      fields += fixed ? 0 : 1;
    }
    kit.yes(c + " has some twenty fields at most", fields <= 20);
    for (Method m : c.getDeclaredMethods()) {
      kit.yes(m + " has seven parameters at most", m.getParameterCount() <= 7);
      boolean own = c == LullabyPit.class && Modifier.isPublic(m.getModifiers());
      kit.yes(m + " bears no public name", own || !names.contains(m.getName()));
    }
  }
}
