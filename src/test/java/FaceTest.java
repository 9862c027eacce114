import java.lang.reflect.Constructor;
import java.lang.reflect.Field;
import java.lang.reflect.Method;
import java.lang.reflect.Modifier;
import java.util.Set;
import java.util.TreeSet;

/** The public face is the document's, and no more. */
public final class FaceTest {
    private static final String FACE = "int feed 5,int post 1,int fault 0,int where 0,int whale 2,int box 2,int length 1,"
        + "int note 2,int sung 2,int heard 1,int way 2,int season 1,int sets 3,int sent 1,int apart 2,int bear 0,int mixed 0,"
        + "int fresh 2,int byTurns 2,int near 1,int asNear 1,int heardIn 2,int strange 1,int arrival 4,int brings 2,"
        + "int soonest 1,int surest 1,int by 2,long registered 2,int match 0,int matchDays 0,int matchOf 1,int meet 4,"
        + "int fits 0,int reach 2,int pier 1,int watch 2,int round 1,int roundAt 2,int decade 2,int send 2,boolean tune 3,"
        + "int years 1,boolean close 2,boolean undo 0,int image 0,boolean back 1,int led 1,int size 1,int trouble 0";

    public static void main(String[] args) {
        Set<String> open = new TreeSet<>();
        Set<String> hidden = new TreeSet<>();
        for (Method method : WhalePost.class.getDeclaredMethods()) {
            if (Modifier.isPublic(method.getModifiers())) {
                open.add(method.getReturnType() + " " + method.getName() + " " + method.getParameterCount());
            } else if (!method.isSynthetic()) {
                Check.due(method + " is private", Modifier.isPrivate(method.getModifiers()), true);
                hidden.add(method.getName());
            }
        }
        Check.due("the public methods " + open, open.equals(new TreeSet<>(Set.of(FACE.split(",")))), true);
        for (String method : open) {
            Check.due(method + " is no private name", hidden.contains(method.split(" ")[1]), false);
        }
        for (Field field : WhalePost.class.getDeclaredFields()) {
            boolean none = field.getName().equals("NONE");
            Check.due(field + " is public", Modifier.isPublic(field.getModifiers()), none);
            Check.due(field + " is private", Modifier.isPrivate(field.getModifiers()), !none);
        }
        Constructor<?>[] constructors = WhalePost.class.getDeclaredConstructors();
        Check.due("constructors", constructors.length, 1);
        Check.due("parameters of it", constructors[0].getParameterCount(), 0);
        Check.due("it is public", Modifier.isPublic(constructors[0].getModifiers()), true);
        Check.due("the class is final", Modifier.isFinal(WhalePost.class.getModifiers()), true);
        Check.due("NONE", WhalePost.NONE, -1);
        Check.end();
    }
}
