import java.lang.reflect.Constructor;
import java.lang.reflect.Field;
import java.lang.reflect.Member;
import java.lang.reflect.Method;
import java.lang.reflect.Modifier;
import java.util.ArrayList;
import java.util.Arrays;
import java.util.Collections;
import java.util.HashSet;
import java.util.List;
import java.util.Set;

/** The public face is the document's, and LANGUAGE.md's rule 1 holds. */
public final class FaceTest {
    private static final String[] FACE = {
        "int addTurbine(int,int,int) IllegalArgumentException IllegalStateException",
        "int setFault(int,int) IndexOutOfBoundsException IllegalArgumentException",
        "int setBog(int,int) IllegalArgumentException IllegalStateException",
        "int set(int,int) IndexOutOfBoundsException IllegalArgumentException",
        "int plan(int,int) IndexOutOfBoundsException",
        "int unplan(int) IndexOutOfBoundsException IllegalStateException",
        "int orderBlade(int) IndexOutOfBoundsException IllegalStateException",
        "int pass(int) IllegalArgumentException IllegalStateException",
        "int append(int) IllegalArgumentException IllegalStateException",
        "int clearBuffer()",
        "int firstError()",
        "int load() IllegalArgumentException IllegalStateException",
        "int undo() IllegalStateException",
        "int turbine(int,int) IndexOutOfBoundsException IllegalArgumentException",
        "int blade(int,int) IndexOutOfBoundsException IllegalArgumentException",
        "int bog(int,int) IndexOutOfBoundsException IllegalArgumentException",
        "int claims(int) IllegalArgumentException",
        "int count(int) IllegalArgumentException",
        "int setting(int) IndexOutOfBoundsException",
        "int way(int,int) IllegalArgumentException",
        "int ifPassed(int,int) IllegalArgumentException",
        "int bestFirst()",
        "int window(int,int) IndexOutOfBoundsException IllegalArgumentException",
        "int doneIn()",
        "float meanWind()",
        "double lostShare()",
        "long digest()",
    };

    public static void main(String[] args) {
        checkMethods();
        checkConstructorAndConstant();
        checkClasses();
        Check.finish();
    }

    private static void checkMethods() {
        List<String> found = new ArrayList<>();
        Set<String> publicNames = new HashSet<>();
        for (Method method : CraneCampaign.class.getDeclaredMethods()) {
            if (Modifier.isPublic(method.getModifiers())) {
                found.add(describe(method));
                publicNames.add(method.getName());
            }
        }
        for (Method method : CraneCampaign.class.getDeclaredMethods()) {
            if (!Modifier.isPublic(method.getModifiers())) {
                checkPrivate(method);
                Check.dueTrue("a name of its own: " + method, !publicNames.contains(method.getName()));
            }
        }
        List<String> due = new ArrayList<>(Arrays.asList(FACE));
        Collections.sort(due);
        Collections.sort(found);
        Check.dueTrue("the face is " + due + ", found " + found, due.equals(found));
    }

    private static String describe(Method method) {
        StringBuilder text = new StringBuilder();
        text.append(method.getReturnType()).append(' ').append(method.getName()).append('(');
        for (int i = 0; i < method.getParameterTypes().length; i++) {
            text.append(i == 0 ? "" : ",").append(method.getParameterTypes()[i]);
        }
        text.append(')');
        for (Class<?> thrown : method.getExceptionTypes()) {
            text.append(' ').append(thrown.getSimpleName());
        }
        return text.toString();
    }

    private static void checkConstructorAndConstant() {
        Constructor<?>[] made = CraneCampaign.class.getDeclaredConstructors();
        Check.due("constructors", 1, made.length);
        Check.dueTrue("a public constructor without parameters",
                Modifier.isPublic(made[0].getModifiers()) && made[0].getParameterCount() == 0);
        Check.due("NONE", -1, CraneCampaign.NONE);
        for (Field field : CraneCampaign.class.getDeclaredFields()) {
            if (!field.getName().equals("NONE")) {
                checkPrivate(field);
            }
        }
    }

    private static void checkPrivate(Member member) {
        Check.dueTrue("private: " + member, member.isSynthetic() || Modifier.isPrivate(member.getModifiers()));
    }

    private static void checkClasses() {
        Check.dueTrue("final", Modifier.isFinal(CraneCampaign.class.getModifiers()));
        Class<?>[] inside = CraneCampaign.class.getDeclaredClasses();
        Check.dueTrue("at most twelve classes", inside.length < 12);
        for (Class<?> one : inside) {
            Check.dueTrue("static: " + one, Modifier.isStatic(one.getModifiers()));
            Check.dueTrue("not public: " + one, !Modifier.isPublic(one.getModifiers())
                    && !Modifier.isProtected(one.getModifiers()));
        }
    }
}
