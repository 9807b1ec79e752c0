import java.lang.reflect.Constructor;
import java.lang.reflect.Field;
import java.lang.reflect.Method;
import java.lang.reflect.Modifier;
import java.util.Arrays;
import java.util.List;
import java.util.TreeSet;

/** The public face is the document's and no more, and no call throws, also behind the 512th and with any numbers. */
public final class FaceTest {
    private static final List<String> FACE = List.of(
        "int begin()", "int bits(int,int)", "int chance(int,int)", "int count(int,int,int)", "int end()", "int get(int)",
        "int getBits(int)", "int model(int)", "int octets(int)", "int out(int)", "int put(int,int)", "int read()",
        "int spoil(int,int)", "int take(int)", "int told(int)", "long state(int)");

    public static void main(String[] args) {
        face();
        full();
        Check.finish("FaceTest");
    }

    private static void face() {
        TreeSet<String> seen = new TreeSet<>();
        for (Method method : RangeCoders.class.getDeclaredMethods()) {
            if (Modifier.isPrivate(method.getModifiers()) || method.isSynthetic()) continue;
            String parameters = Arrays.toString(method.getParameterTypes()).replaceAll("[\\[\\] ]", "");
            seen.add(method.getReturnType() + " " + method.getName() + "(" + parameters + ")");
        }
        Check.due("methods " + seen, seen.equals(new TreeSet<>(FACE)) ? 1 : 0, 1);
        for (Field field : RangeCoders.class.getDeclaredFields()) {
            boolean hidden = Modifier.isPrivate(field.getModifiers());
            Check.due("field " + field.getName(), hidden || field.getName().equals("NONE") ? 1 : 0, 1);
        }
        Check.due("NONE", RangeCoders.NONE, -1);
        Constructor<?>[] constructors = RangeCoders.class.getDeclaredConstructors();
        Check.due("constructors", constructors.length, 1);
        Check.due("a public one", Modifier.isPublic(constructors[0].getModifiers()) ? 1 : 0, 1);
        Check.due("final", Modifier.isFinal(RangeCoders.class.getModifiers()) ? 1 : 0, 1);
    }

    /** More than 512 calls: the limits of 600 items and 6000 bytes cannot be met with fewer. */
    private static void full() {
        for (int form = 0; form <= 4; form++) {
            RangeCoders x = new RangeCoders(form, 1);
            x.model(64);
            x.count(0, 0, 4095);
            x.count(0, 1, 4095);
            for (int i = 0; i < 600; i++) {
                int sign = 2 + i * 37 % 62;
                Check.due("item " + i, i % 5 == 4 ? x.bits(i % 512, 9) : x.put(0, sign), i + 1);
            }
            Check.due("form " + form + ": no room for a sign", x.put(0, 0), -4);
            Check.due("form " + form + ": no room for a VALUE", x.bits(0, 1), -4);
            x.end();
            Check.due("form " + form + ": -3 ahead of -4", x.put(0, 0), -3);
            x.take(1);
            x.read();
            for (int i = 0; i < 600; i++) {
                Check.due("read " + i, i % 5 == 4 ? x.getBits(9) : x.get(0), i % 5 == 4 ? i % 512 : 2 + i * 37 % 62);
            }
            x.take(0);
            for (int i = 1; i <= 1500; i++) Check.due("octets", x.octets(i), 4 * i);
            Check.due("form " + form + ": no room in IN", x.octets(1), -4);
            Check.due("form " + form + ": IN", x.told(3), 6000);
        }
    }
}
