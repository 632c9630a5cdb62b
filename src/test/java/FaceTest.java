import java.lang.reflect.Constructor;
import java.lang.reflect.Field;
import java.lang.reflect.Method;
import java.lang.reflect.Modifier;
import java.util.ArrayList;
import java.util.List;
import java.util.Set;
import java.util.TreeSet;

/** The class shows the document's face and nothing else. */
public final class FaceTest {
    private static final String NO_ELEMENT = " throws java.util.NoSuchElementException";
    private static final String NO_STATE = " throws java.lang.IllegalStateException";
    private static final String NO_ARGUMENT = " throws java.lang.IllegalArgumentException";
    private static final String NO_INDEX = " throws java.lang.IndexOutOfBoundsException";
    private static final String AND_STATE = ",java.lang.IllegalStateException";
    private static final String AND_INDEX = ",java.lang.IndexOutOfBoundsException";

    private static final List<String> METHODS = List.of(
        "int Ahoarch.draft(char)" + NO_ARGUMENT + AND_STATE,
        "int Ahoarch.enter()" + NO_STATE,
        "int Ahoarch.setReplacement(int)" + NO_ELEMENT,
        "int Ahoarch.takeOut(int)" + NO_ELEMENT,
        "int Ahoarch.patterns()",
        "int Ahoarch.length(int)" + NO_ELEMENT,
        "int Ahoarch.beginnings()",
        "int Ahoarch.link(int)" + NO_ELEMENT,
        "int Ahoarch.overlap(int,int)" + NO_ELEMENT,
        "int Ahoarch.feed(char)" + NO_ARGUMENT + AND_STATE,
        "int Ahoarch.feedPattern(int)" + NO_ELEMENT + AND_STATE,
        "int Ahoarch.clear()",
        "int Ahoarch.streamLength()",
        "int Ahoarch.depth()",
        "int Ahoarch.ending()",
        "int Ahoarch.endingPattern(int)" + NO_INDEX,
        "int Ahoarch.occurrences()",
        "int Ahoarch.occurrencesOf(int)" + NO_ELEMENT,
        "int Ahoarch.occurrence(int,int)" + NO_ELEMENT + AND_INDEX,
        "int Ahoarch.told()",
        "int Ahoarch.covered()",
        "int Ahoarch.mostApart()",
        "int Ahoarch.chosen(int)" + NO_ARGUMENT,
        "int Ahoarch.chosenPattern(int,int)" + NO_ARGUMENT + AND_INDEX,
        "int Ahoarch.chosenPlace(int,int)" + NO_ARGUMENT + AND_INDEX,
        "int Ahoarch.replacedLength(int)" + NO_ARGUMENT,
        "char Ahoarch.replaced(int,int)" + NO_ARGUMENT + AND_INDEX,
        "int Ahoarch.certain()");

    public static void main(String[] args) {
        List<String> faults = new ArrayList<>();
        sameMethods(faults);
        onlyOneConstructor(faults);
        nothingElseShown(faults);
        noNameUsedTwice(faults);
        for (String fault : faults) {
            System.out.println(fault);
        }
        System.out.println(faults.isEmpty() ? "FaceTest: the face is the document's"
            : "FaceTest: " + faults.size() + " faults");
        System.exit(faults.isEmpty() ? 0 : 1);
    }

    private static void sameMethods(List<String> faults) {
        Set<String> due = new TreeSet<>();
        for (String each : METHODS) {
            due.add("public " + each);
        }
        for (Method each : Ahoarch.class.getDeclaredMethods()) {
            if (!Modifier.isPrivate(each.getModifiers()) && !due.remove(each.toGenericString())) {
                faults.add("not of the face: " + each.toGenericString());
            }
        }
        for (String each : due) {
            faults.add("missing: " + each);
        }
    }

    private static void onlyOneConstructor(List<String> faults) {
        Constructor<?>[] all = Ahoarch.class.getDeclaredConstructors();
        if (all.length != 1 || !all[0].toGenericString().equals("public Ahoarch()")) {
            faults.add("the constructor is not public Ahoarch() alone");
        }
    }

    private static void nothingElseShown(List<String> faults) {
        if (Ahoarch.class.getModifiers() != (Modifier.PUBLIC | Modifier.FINAL)) {
            faults.add("the class is not public and final");
        }
        for (Field each : Ahoarch.class.getDeclaredFields()) {
            if (!Modifier.isPrivate(each.getModifiers())) {
                faults.add("not private: " + each);
            }
            if (Modifier.isStatic(each.getModifiers()) && !Modifier.isFinal(each.getModifiers())) {
                faults.add("static, but not final: " + each);
            }
        }
    }

    private static void noNameUsedTwice(List<String> faults) {
        Set<String> names = new TreeSet<>();
        for (Method each : Ahoarch.class.getMethods()) {
            names.add(each.getName());
        }
        noneOf(names, Ahoarch.class, faults);
        for (Class<?> inside : Ahoarch.class.getDeclaredClasses()) {
            noneOf(names, inside, faults);
        }
    }

    private static void noneOf(Set<String> names, Class<?> owner, List<String> faults) {
        for (Method each : owner.getDeclaredMethods()) {
            if (!Modifier.isPublic(each.getModifiers()) && names.contains(each.getName())) {
                faults.add("bears the name of a public method: " + each);
            }
        }
    }
}
