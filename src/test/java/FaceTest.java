import java.lang.reflect.Field;
import java.lang.reflect.Method;
import java.lang.reflect.Modifier;
import java.util.Arrays;
import java.util.Set;
import java.util.TreeSet;

// The public face of the class: what the document lists, and no other member in sight.
public final class FaceTest {
    private static final Check check = new Check();

    public static void main(String[] args) throws Exception {
        membersAreThoseOfTheDocument();
        constantsHaveTheirValues();
        check.finish();
    }

    private static void membersAreThoseOfTheDocument() {
        Set<String> due = new TreeSet<>(Arrays.asList("int getOrder()", "int getFrameLength()", "int getBitCount()",
            "boolean putSample(int)", "int getPending()", "boolean encodeFrame()", "int getWord(int)",
            "int getRawReflection(int)", "int getReflection(int,int)", "int getField(int,int)",
            "boolean decodeFrame(int,int,int,int)", "int getOutput(int,int)", "int getExcitation(int,int)",
            "int getMemory(int,int)", "int getFrameCount(int)"));
        Set<String> seen = new TreeSet<>();
        Set<String> publicNames = new TreeSet<>();
        for (Method method : CelpSpeechCodec.class.getDeclaredMethods()) {
            if (!Modifier.isPrivate(method.getModifiers())) {
                check.due(method + " is public", Modifier.isPublic(method.getModifiers()), true);
                String types = String.join(",", Arrays.stream(method.getParameterTypes())
                    .map(Class::getName).toArray(String[]::new));
                seen.add(method.getReturnType() + " " + method.getName() + "(" + types + ")");
                publicNames.add(method.getName());
            }
        }
        System.out.println(seen.equals(due) ? "methods are as due" : "methods are " + seen);
        check.due("the public methods", seen.equals(due), true);
        for (Method method : CelpSpeechCodec.class.getDeclaredMethods()) {
            boolean hidden = Modifier.isPrivate(method.getModifiers());
            check.due(method + " has its own name", hidden && publicNames.contains(method.getName()), false);
        }
        check.due("constructors", CelpSpeechCodec.class.getDeclaredConstructors().length, 1);
        check.due("public constructors", CelpSpeechCodec.class.getConstructors().length, 1);
        check.due("final class", Modifier.isFinal(CelpSpeechCodec.class.getModifiers()), true);
        check.due("public class", Modifier.isPublic(CelpSpeechCodec.class.getModifiers()), true);
        check.due("nested classes", CelpSpeechCodec.class.getDeclaredClasses().length, 0);
    }

    private static void constantsHaveTheirValues() throws IllegalAccessException, NoSuchFieldException {
        String[] names = {"SIDE_ENCODER", "SIDE_DECODER", "FIELD_LAG", "FIELD_ADAPTIVE_GAIN", "FIELD_FIXED_GAIN",
            "FIELD_SLOT0", "FIELD_SIGN0", "FIELD_K1", "LAG_MIN", "LAG_COUNT", "HISTORY", "MIN_ORDER", "MAX_ORDER",
            "MIN_FRAME", "MAX_FRAME"};
        int[] values = {0, 1, 0, 1, 2, 3, 7, 11, 4, 32, 64, 2, 6, 8, 32};
        for (int i = 0; i < names.length; i++) {
            Field field = CelpSpeechCodec.class.getDeclaredField(names[i]);
            check.due(names[i], field.getInt(null), values[i]);
            check.due(names[i] + " is int", field.getType() == int.class, true);
        }
        int inSight = 0;
        for (Field field : CelpSpeechCodec.class.getDeclaredFields()) {
            if (!Modifier.isPrivate(field.getModifiers())) {
                int needed = Modifier.PUBLIC | Modifier.STATIC | Modifier.FINAL;
                check.due(field + " is a constant", field.getModifiers(), needed);
                inSight++;
            }
        }
        check.due("fields in sight", inSight, names.length);
    }
}
