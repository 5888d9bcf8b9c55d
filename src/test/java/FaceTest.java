import java.io.IOException;
import java.lang.reflect.Field;
import java.lang.reflect.Method;
import java.lang.reflect.Modifier;
import java.nio.file.Files;
import java.nio.file.Path;
import java.util.ArrayList;
import java.util.Collections;
import java.util.List;

/** The public face is the document's, and the source keeps to what of LANGUAGE.md a look at it can tell. */
public final class FaceTest {
    private static final Due due = new Due("FaceTest");

    private static final String FACE = "person 2,people 3,errand 2,clear 1,hat 2,mend 3,of 2,feed 1,law 0,alike 1,"
        + "plan 0,where 2,waited 2,best 1,bars 1,led 2,hats 1,needs 0,kinds 1,pass 1,go 3,judge 1,watch 2,sight 2,"
        + "atLeast 1,who 1,gone 2,months 1,turn 0,image 0,back 0,undo 0,redo 0,body 1,act 3,trace 1,keep 2,row 3,"
        + "put 3,element 2,shift 5,taken 2,count 1";

    public static void main(String[] args) throws IOException {
        members();
        nested();
        source(Files.readString(Path.of("src/main/java/TwoAlike.java")));
        due.close();
    }

    private static void members() {
        List<String> want = new ArrayList<>(List.of(FACE.split(",")));
        List<String> got = new ArrayList<>();
        for (Method m : TwoAlike.class.getDeclaredMethods()) {
            if (Modifier.isPrivate(m.getModifiers())) continue;
            due.holds(m + " is public and of the object", m.getModifiers() == Modifier.PUBLIC);
            got.add(m.getName() + " " + m.getParameterCount());
            Class<?> answer = m.getName().equals("element") ? long.class : int.class;
            due.holds(m + " answers as told", m.getReturnType() == answer);
        }
        Collections.sort(want);
        Collections.sort(got);
        due.holds("the methods " + got, got.equals(want));
        due.is("methods", got.size(), 43);
        due.holds("final", Modifier.isFinal(TwoAlike.class.getModifiers()));
        due.is("constructors", TwoAlike.class.getDeclaredConstructors().length, 1);
        due.is("public constructors", TwoAlike.class.getConstructors().length, 1);
        for (Field f : TwoAlike.class.getDeclaredFields()) {
            boolean constant = f.getName().matches("BAD|NOT|FULL|STATE|VOID");
            due.holds(f + " is public or private", Modifier.isPublic(f.getModifiers()) == constant
                && Modifier.isPrivate(f.getModifiers()) != constant);
        }
        due.is("BAD", TwoAlike.BAD, -1);
        due.is("NOT", TwoAlike.NOT, -2);
        due.is("FULL", TwoAlike.FULL, -3);
        due.is("STATE", TwoAlike.STATE, -5);
        due.is("VOID", TwoAlike.VOID, -2000000000);
    }

    private static void nested() {
        Class<?>[] inside = TwoAlike.class.getDeclaredClasses();
        due.holds("some twelve classes at most", inside.length + 1 <= 12);
        List<Class<?>> all = new ArrayList<>(List.of(inside));
        for (Class<?> c : all) {
            due.holds(c + " is private and static", Modifier.isPrivate(c.getModifiers()) && Modifier.isStatic(c.getModifiers()));
            for (Method m : c.getDeclaredMethods()) {
                due.holds(m + " bears no name of the face", !("," + FACE).contains("," + m.getName() + " "));
            }
        }
        all.add(TwoAlike.class);
        for (Class<?> c : all) {
            int fields = 0;
            for (Field f : c.getDeclaredFields()) {
                boolean fixed = Modifier.isStatic(f.getModifiers());
                due.holds(f + " is final where it is static", !fixed || Modifier.isFinal(f.getModifiers()));
                if (!fixed) fields++;
            }
            due.holds(c + " has some twenty fields at most", fields <= 20);
            for (Method m : c.getDeclaredMethods()) due.holds(m + " takes seven at most", m.getParameterCount() <= 7);
        }
    }

    private static void source(String text) {
        String[] never = {"import ", "package ", "->", "::", "static {", "try", "catch", "finally", "synchronized",
            "assert ", "instanceof", "Exception", "System.out", "Math.random", "Time", "Object", "float", "double",
            "while", "native", "volatile", "transient"};
        for (String word : never) due.holds("no " + word, !text.contains(word));
        int news = 0;
        String[] lines = text.split("\n");
        for (String line : lines) {
            if (!line.contains("new ")) continue;
            news++;
            due.holds("made once: " + line.trim(), line.matches(" +(private )?(static )?final .* = new .*;"));
        }
        due.holds("something is made", news > 0);
        for (int k = 0; k < text.length(); k++) {
            if (text.charAt(k) > 126) due.is("sign at " + k, text.charAt(k), 126);
        }
        methodsAreShort(lines);
    }

    private static void methodsAreShort(String[] lines) {
        int begun = -1;
        for (int k = 0; k < lines.length; k++) {
            if (lines[k].matches("( {4}| {8})[a-zA-Z].*\\) \\{")) begun = k;
            if (begun >= 0 && lines[k].matches("( {4}| {8})\\}")) {
                due.holds("short: " + lines[begun].trim(), k - begun < 60);
                begun = -1;
            }
        }
    }
}
