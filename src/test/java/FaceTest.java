import java.lang.reflect.Constructor;
import java.lang.reflect.Field;
import java.lang.reflect.Method;
import java.lang.reflect.Modifier;
import java.nio.file.Files;
import java.nio.file.Path;
import java.util.Arrays;
import java.util.HashSet;
import java.util.Set;
import java.util.TreeSet;

/** The public face, and the rules of LANGUAGE.md that can be read off the class or its file. */
public final class FaceTest {
    private static final String FACE = "int sign(int);boolean end(int);int lake();int fish();int oar();int fog();int rule();"
        + "int one(int,int);int field(int,int);int sheet(int,int,int,int);int hours(int);int promise(int,int,int);int takesBack(int);"
        + "int letsGo(int);int buys(int);int day();int undo();int towed();int ahead(int);int comes(int);int sticks();long track(int);"
        + "int sends(int,int,int);int cheapest(int,int);int matters(int);int keeps();int owed();int fates(int);int minds();int evens();"
        + "int strongest();int sways(int);int seen(int,int,int);int forget();int fits();int looks();int way(int,int);int farthest();"
        + "int drifts(int,int);int game(int,int);int law();int rests(int);int years(int,int);boolean keep(int);boolean again(int);"
        + "int count(int);long row(int)";

    private FaceTest() {
    }

    private static String signature(Method m) {
        StringBuilder parameters = new StringBuilder();
        for (Class<?> p : m.getParameterTypes()) {
            parameters.append(parameters.length() > 0 ? "," : "").append(p.getSimpleName());
        }
        return m.getReturnType().getSimpleName() + " " + m.getName() + "(" + parameters + ")";
    }

    private static void face() {
        Set<String> got = new TreeSet<>();
        Set<String> names = new HashSet<>();
        for (Method m : FishFerry.class.getDeclaredMethods()) {
            if (Modifier.isPublic(m.getModifiers())) {
                got.add(signature(m));
                names.add(m.getName());
            } else {
                Check.is("private: " + m.getName(), Modifier.isPrivate(m.getModifiers()), true);
            }
        }
        Check.is("the public methods", got, new TreeSet<>(Arrays.asList(FACE.split(";"))));
        for (Method m : FishFerry.class.getDeclaredMethods()) {
            Check.is("a name of its own: " + m.getName(), Modifier.isPublic(m.getModifiers()) || !names.contains(m.getName()), true);
            Check.is("seven parameters at most: " + m.getName(), m.getParameterCount() <= 7, true);
        }
        for (Field f : FishFerry.class.getDeclaredFields()) {
            boolean isNone = f.getName().equals("NONE") && Modifier.isPublic(f.getModifiers());
            Check.is("private: " + f.getName(), isNone || Modifier.isPrivate(f.getModifiers()), true);
        }
        Check.is("one constructor", FishFerry.class.getDeclaredConstructors().length, 1);
        Constructor<?> made = FishFerry.class.getDeclaredConstructors()[0];
        Check.is("it is public, without parameters", Modifier.isPublic(made.getModifiers()) && made.getParameterCount() == 0, true);
        Check.is("final", Modifier.isFinal(FishFerry.class.getModifiers()), true);
    }

    private static void classesInside() {
        Class<?>[] inside = FishFerry.class.getDeclaredClasses();
        Check.is("some twelve classes", inside.length < 12, true);
        for (Class<?> c : inside) {
            Check.is("static: " + c, Modifier.isStatic(c.getModifiers()), true);
            Check.is("not public: " + c, Modifier.isPublic(c.getModifiers()) || Modifier.isProtected(c.getModifiers()), false);
            for (Field f : c.getDeclaredFields()) {
                boolean isState = Modifier.isStatic(f.getModifiers()) && !Modifier.isFinal(f.getModifiers());
                Check.is("no static state: " + f, isState, false);
            }
        }
    }

    private static void source() throws Exception {
        String file = Files.readString(Path.of("src/main/java/FishFerry.java"));
        String code = file.replaceAll("(?s)/\\*.*?\\*/", "").replaceAll("//[^\n]*", "");
        for (String word : new String[] {"finally", "synchronized", "assert", "->", "::", "Exact(", "catch", "package", "native",
            "System.out", "Random", "Thread", "toString", "hashCode", ".equals(", "instanceof", "double", "float"}) {
            Check.is("no " + word, code.contains(word), false);
        }
        Check.is("two imports", code.split("import ", -1).length - 1, 2);
        int thrown = code.split("throw ", -1).length;
        Check.is("throws NoSuchElementException alone", code.split("throw new NoSuchElementException\\(\\);", -1).length, thrown);
    }

    /** No call makes anything: all calls of a run live in one room. */
    private static void room() {
        com.sun.management.ThreadMXBean threads =
            (com.sun.management.ThreadMXBean) java.lang.management.ManagementFactory.getThreadMXBean();
        FishFerry x = Check.ferry("66" + ".".repeat(36), "t5;p4;s7;t9", "0550;1222;2330;3504");
        everyCall(x);
        long me = Thread.currentThread().getId();
        long before = threads.getThreadAllocatedBytes(me);
        threads.getThreadAllocatedBytes(me);
        long ofAsking = threads.getThreadAllocatedBytes(me) - before;
        before = threads.getThreadAllocatedBytes(me);
        everyCall(x);
        long made = threads.getThreadAllocatedBytes(me) - before;
        Check.is("calls make nothing (" + made + " bytes)", made <= ofAsking + 512, true);
    }

    private static void everyCall(FishFerry x) {
        for (int i = 0; i < 3; i++) {
            x.sign(0x6E316C30);
            x.day();
            x.sign(0x732D6431);
            x.end(3);
            x.law();
            x.sign(0x732D6400);
            x.end(3);
            x.rule();
            x.sign(0x31323334);
            x.fog();
            x.hours(3);
            x.promise(0, 20, 3);
            x.takesBack(0);
            x.letsGo(1);
            x.buys(1);
            x.undo();
            x.towed();
            x.ahead(50);
            x.comes(35);
            x.sticks();
            x.track(50);
            x.sends(30, 3, 20);
            x.cheapest(30, 20);
            x.matters(20);
            x.keeps();
            x.owed();
            x.fates(20);
            x.minds();
            x.evens();
            x.strongest();
            x.sways(2);
            x.seen(3, 3, 0);
            x.fits();
            x.looks();
            x.forget();
            x.way(0, 35);
            x.farthest();
            x.drifts(1, 3);
            x.game(60, 7);
            x.rests(20);
            x.years(i, 60);
            x.keep(0);
            x.again(0);
        }
    }

    public static void main(String[] args) throws Exception {
        face();
        classesInside();
        source();
        room();
        Check.finish();
    }
}
