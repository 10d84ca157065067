import java.lang.reflect.Constructor;
import java.lang.reflect.Field;
import java.lang.reflect.Method;
import java.lang.reflect.Modifier;
import java.util.Set;
import java.util.TreeSet;

/** "The public face", rules 1 and 5 of LANGUAGE.md, and "What it is": the 512 calls of an object. */
public final class FaceTest {
  private static final int RUNS = 505;
  private static final int CYCLES = RUNS * 999;

  private static final String[] FACE = {
    "public boolean HomeBoard.burn(int,int,int)",
    "public boolean HomeBoard.poke(int,int)",
    "public void HomeBoard.power()",
    "public boolean HomeBoard.press(int,int)",
    "public int HomeBoard.run(int)",
    "public int HomeBoard.ram(int)",
    "public int HomeBoard.look(int)",
    "public int HomeBoard.register(int)",
    "public boolean HomeBoard.jammed()",
    "public int HomeBoard.beam()",
    "public int HomeBoard.point(int,int)",
    "public int HomeBoard.access()",
    "public int HomeBoard.cycles()",
    "public int HomeBoard.stolen()",
    "public int HomeBoard.interrupts()",
  };

  private FaceTest() {
  }

  public static void main(String[] args) {
    faceOfTheClass();
    faceOfMethods();
    faceOfConstants();
    noNameTwice();
    classesInside();
    staticFieldsAreFinal();
    lastCallOfEachKind();
    Bench.done();
  }

  private static void faceOfTheClass() {
    Bench.part("The public face: 'public final class HomeBoard'");
    Bench.due("the class", Modifier.toString(HomeBoard.class.getModifiers()), "public final");
    Bench.due("its package", HomeBoard.class.getPackageName(), "");
    Bench.due("above it", HomeBoard.class.getSuperclass().getName(), "java.lang.Object");
    Bench.due("its interfaces", HomeBoard.class.getInterfaces().length, 0);
    Constructor<?>[] constructors = HomeBoard.class.getDeclaredConstructors();
    Bench.due("constructors", constructors.length, 1);
    Bench.due("the constructor", constructors[0].toString(), "public HomeBoard()");
  }

  private static void faceOfMethods() {
    Bench.part("The public face: its methods, and no others that are not private");
    Set<String> seen = new TreeSet<>();
    for (Method method : HomeBoard.class.getDeclaredMethods()) {
      if (!Modifier.isPrivate(method.getModifiers())) {
        seen.add(method.toString());
      }
    }
    Bench.due("methods", seen.toString(), new TreeSet<>(Set.of(FACE)).toString());
  }

  private static void faceOfConstants() {
    Bench.part("The public face: 'public static final int NONE = -1', and no other field that is not private");
    StringBuilder seen = new StringBuilder();
    for (Field field : HomeBoard.class.getDeclaredFields()) {
      if (!Modifier.isPrivate(field.getModifiers())) {
        seen.append(field);
      }
    }
    Bench.due("fields", seen.toString(), "public static final int HomeBoard.NONE");
    Bench.due("NONE", HomeBoard.NONE, -1);
  }

  private static void noNameTwice() {
    Bench.part("LANGUAGE.md 1: 'No private method bears the name of a public one'");
    Set<String> names = new TreeSet<>();
    for (Method method : HomeBoard.class.getMethods()) {
      if (method.getDeclaringClass() == HomeBoard.class) {
        names.add(method.getName());
      }
    }
    for (Method method : HomeBoard.class.getDeclaredMethods()) {
      boolean isPublic = Modifier.isPublic(method.getModifiers());
      Bench.due(method.toString(), !isPublic && names.contains(method.getName()), false);
    }
    for (Class<?> inside : HomeBoard.class.getDeclaredClasses()) {
      for (Method method : inside.getDeclaredMethods()) {
        Bench.due(method.toString(), names.contains(method.getName()), false);
      }
    }
  }

  private static void classesInside() {
    Bench.part("LANGUAGE.md 1 and 11: classes inside are private or package-visible and static, at most some twelve");
    Class<?>[] classes = HomeBoard.class.getDeclaredClasses();
    Bench.due("at most 12", classes.length <= 12, true);
    for (Class<?> inside : classes) {
      int modifiers = inside.getModifiers();
      Bench.due(inside + " is static", Modifier.isStatic(modifiers), true);
      Bench.due(inside + " is shown", Modifier.isPublic(modifiers) || Modifier.isProtected(modifiers), false);
    }
  }

  private static void staticFieldsAreFinal() {
    Bench.part("LANGUAGE.md 5 and 11: static fields are final; some twenty other fields a class");
    fieldsOf(HomeBoard.class);
    for (Class<?> inside : HomeBoard.class.getDeclaredClasses()) {
      fieldsOf(inside);
    }
  }

  private static void fieldsOf(Class<?> owner) {
    int others = 0;
    for (Field field : owner.getDeclaredFields()) {
      boolean isStatic = Modifier.isStatic(field.getModifiers());
      Bench.due(field + " may change", isStatic && !Modifier.isFinal(field.getModifiers()), false);
      others += isStatic ? 0 : 1;
    }
    Bench.due(owner + " has too many fields", others > 20, false);
  }

  private static void lastCallOfEachKind() {
    Bench.part("What it is: 'An object is used for at most 512 calls': each kind of call as the 512th");
    Bench.due("burn", calledOften().burn(0, 1023, 255), true);
    Bench.due("poke", calledOften().poke(8191, 255), true);
    calledOften().power();
    Bench.due("press", calledOften().press(7, 255), true);
    Bench.due("run", calledOften().run(1000), 1000);
    Bench.due("ram", calledOften().ram(1024), 76);
    Bench.due("look", calledOften().look(1025), 0);
    Bench.due("register", calledOften().register(5), 1024);
    Bench.due("jammed", calledOften().jammed(), false);
    Bench.due("beam", calledOften().beam(), CYCLES % 960);
    Bench.due("point", calledOften().point(39, 63), 0);
    Bench.due("access", calledOften().access(), 1026);
    Bench.due("cycles", calledOften().cycles(), CYCLES);
    Bench.due("stolen", calledOften().stolen(), 0);
    Bench.due("interrupts", calledOften().interrupts(), 0);
  }

  /** A board in a loop of three cycles (a JUMP to itself), behind 511 calls. */
  private static HomeBoard calledOften() {
    HomeBoard b = new HomeBoard();
    b.burn(2, 1021, 4);
    b.poke(1024, 76);
    b.poke(1026, 4);
    b.power();
    for (int i = 0; i < RUNS; i++) {
      b.run(999);
    }
    b.jammed();
    b.beam();
    return b;
  }
}
