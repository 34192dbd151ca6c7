import java.lang.reflect.Constructor;
import java.lang.reflect.Field;
import java.lang.reflect.Method;
import java.lang.reflect.Modifier;
import java.util.ArrayList;
import java.util.Arrays;
import java.util.Collections;
import java.util.List;

/** The class has the document's face and nothing else that is seen from outside. */
public final class FaceTest {
  private static final String[] METHODS = {
    "int stave(int,int,int,int)", "int hoop(int,int,int)", "int board(int)", "int rule(int,int)", "int told(int)",
    "int ofStave(int,int)", "int takes(int)", "int shave(int,int)", "int fits(int)", "int sums(int)",
    "int nearest(int)", "int least(int,int,int)", "int leak(int,int)", "int worst(int,int,int)",
    "int rings(int,int,int)", "int girth(int)", "int ofHoop(int,int)", "int press(int)", "int wet(int)",
    "int driest(int,int)", "int head(int,int)", "int used(int,int)", "int heads(int)", "int feed(int)", "int read()",
    "int hang(int,int,int)", "int tray(int,int,int)", "int held(int)", "int as(int,int,int)", "int put(int,int,long)",
    "long get(int,int)", "int fill(int,int,int)", "int judge(int,int,int)", "int move(int,int,int,int,int)",
    "int image()", "int undo()"
  };
  private static final String[] CONSTANTS = {"NONE", "BAD", "STATE", "FULL", "NOT", "NO"};

  public static void main(String[] args) {
    Due due = new Due("FaceTest");
    due.is("NONE", HoopYard.NONE, -1);
    due.is("BAD", HoopYard.BAD, -2);
    due.is("STATE", HoopYard.STATE, -3);
    due.is("FULL", HoopYard.FULL, -4);
    due.is("NOT", HoopYard.NOT, -5);
    due.is("NO", HoopYard.NO, Long.MIN_VALUE);
    methods(due);
    fields(due);
    classes(due);
    due.end();
  }

  private static void methods(Due due) {
    List<String> seen = new ArrayList<>();
    List<String> faceNames = new ArrayList<>();
    for (Method m : HoopYard.class.getDeclaredMethods()) {
      if (Modifier.isPrivate(m.getModifiers())) {
        continue;
      }
      due.holds(m + " is public", Modifier.isPublic(m.getModifiers()) && !Modifier.isStatic(m.getModifiers()));
      seen.add(told(m));
      faceNames.add(m.getName());
    }
    List<String> wanted = new ArrayList<>(Arrays.asList(METHODS));
    Collections.sort(seen);
    Collections.sort(wanted);
    due.holds("the public methods are those of the document: " + seen, seen.equals(wanted));
    for (Class<?> c : allClasses()) {
      for (Method m : c.getDeclaredMethods()) {
        boolean isOther = c != HoopYard.class || Modifier.isPrivate(m.getModifiers());
        due.holds(m + " bears no name of the face", !isOther || !faceNames.contains(m.getName()));
        due.holds(m + " has seven parameters at most", m.getParameterCount() <= 7);
      }
    }
  }

  private static String told(Method m) {
    StringBuilder text = new StringBuilder(m.getReturnType().getName()).append(' ').append(m.getName()).append('(');
    for (Class<?> type : m.getParameterTypes()) {
      text.append(text.charAt(text.length() - 1) == '(' ? "" : ",").append(type.getName());
    }
    return text.append(')').toString();
  }

  private static void fields(Due due) {
    List<String> seen = new ArrayList<>();
    for (Field f : HoopYard.class.getDeclaredFields()) {
      if (!Modifier.isPrivate(f.getModifiers())) {
        int asPublic = Modifier.PUBLIC | Modifier.STATIC | Modifier.FINAL;
        due.holds(f + " is a public constant", f.getModifiers() == asPublic);
        seen.add(f.getName());
      }
    }
    due.holds("the constants: " + seen, seen.equals(Arrays.asList(CONSTANTS)));
    for (Class<?> c : allClasses()) {
      int own = 0;
      for (Field f : c.getDeclaredFields()) {
        boolean isStatic = Modifier.isStatic(f.getModifiers());
        due.holds(f + " is no static state", !isStatic || Modifier.isFinal(f.getModifiers()));
        own += isStatic ? 0 : 1;
      }
      due.holds(c + " has twenty fields at most", own <= 20);
    }
  }

  private static void classes(Due due) {
    due.is("HoopYard is public and final", HoopYard.class.getModifiers(), Modifier.PUBLIC | Modifier.FINAL);
    Constructor<?>[] made = HoopYard.class.getDeclaredConstructors();
    due.is("constructors", made.length, 1);
    due.is("its parameters", made[0].getParameterCount(), 0);
    due.is("it is public", made[0].getModifiers(), Modifier.PUBLIC);
    due.holds("twelve classes at most", allClasses().size() <= 12);
    for (Class<?> c : HoopYard.class.getDeclaredClasses()) {
      int m = c.getModifiers();
      due.holds(c + " is static", Modifier.isStatic(m) || c.isInterface() || c.isEnum());
      due.holds(c + " is not seen outside", !Modifier.isPublic(m) && !Modifier.isProtected(m));
    }
  }

  private static List<Class<?>> allClasses() {
    List<Class<?>> all = new ArrayList<>(Arrays.asList(HoopYard.class.getDeclaredClasses()));
    all.add(HoopYard.class);
    return all;
  }
}
