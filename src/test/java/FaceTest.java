import java.lang.reflect.Constructor;
import java.lang.reflect.Field;
import java.lang.reflect.Method;
import java.lang.reflect.Modifier;
import java.util.Arrays;
import java.util.TreeSet;

/** The public face has the document's members and no other one. */
public final class FaceTest {
    public static void main(String[] args) throws Exception {
        TreeSet<String> want = new TreeSet<>(Arrays.asList(
                "void sign(int)", "int read()", "int service(int,int)", "int parameter(int,int,int)",
                "long decode(int,int,int)", "void octet(byte)", "int encode(int,int,long)", "byte out(int)",
                "int variant(int)", "int job(int,long)", "int ring(int)", "int compare(int)", "int code(int)"));
        TreeSet<String> got = new TreeSet<>();
        for (Method m : DescribeText.class.getDeclaredMethods()) {
            if (!Modifier.isPrivate(m.getModifiers()) && !m.isSynthetic()) {
                StringBuilder types = new StringBuilder();
                for (Class<?> type : m.getParameterTypes()) {
                    types.append(types.length() == 0 ? "" : ",").append(type.getSimpleName());
                }
                got.add(m.getReturnType().getSimpleName() + " " + m.getName() + "(" + types + ")");
            }
        }
        Due.is("the methods", got.toString(), want.toString());
        int fields = 0;
        for (Field f : DescribeText.class.getDeclaredFields()) {
            fields += Modifier.isPrivate(f.getModifiers()) || f.isSynthetic() ? 0 : 1;
        }
        Due.is("fields that are not private", fields, 0);
        Constructor<?>[] made = DescribeText.class.getDeclaredConstructors();
        Due.is("constructors", made.length, 1);
        Due.is("the constructor's parameters", made[0].getParameterCount(), 0);
        Due.is("the class is public and final", DescribeText.class.getModifiers() & (Modifier.PUBLIC | Modifier.FINAL),
                Modifier.PUBLIC | Modifier.FINAL);
        Class<?>[] declared = DescribeText.class.getMethod("out", int.class).getExceptionTypes();
        Due.is("out throws", Arrays.toString(declared), "[class java.lang.ArrayIndexOutOfBoundsException]");
        Due.done();
    }
}
