import java.lang.reflect.Constructor;
import java.lang.reflect.Field;
import java.lang.reflect.Method;
import java.lang.reflect.Modifier;
import java.util.Set;
import java.util.TreeSet;

/** The face is the document's, and nothing else can be seen from outside. */
public final class FaceTest {
    private static final String[] FACE = {
        "public CoinScripts(int)",
        "public boolean CoinScripts.giveTape(long,int)",
        "public void CoinScripts.wipeTape()",
        "public int CoinScripts.endowOwner(int,long)",
        "public int CoinScripts.registerScript()",
        "public int CoinScripts.submitTape()",
        "public int CoinScripts.closeBlock()",
        "public int CoinScripts.undoBlocks(int)",
        "public int CoinScripts.outputOf(int,int)",
        "public long CoinScripts.coinOf(int,int,int) throws java.lang.IndexOutOfBoundsException",
        "public int CoinScripts.datumOf(int,int)",
        "public long CoinScripts.totalOf(int,long)",
        "public int CoinScripts.ownedBy(int,int)",
        "public int CoinScripts.latestOf(int)",
        "public int CoinScripts.scriptOf(int,int)",
        "public long CoinScripts.lookAt(int)",
        "public static final int CoinScripts.NONE",
    };

    public static void main(String[] args) {
        Set<String> want = new TreeSet<>(Set.of(FACE));
        Set<String> got = new TreeSet<>();
        for (Constructor<?> c : CoinScripts.class.getDeclaredConstructors()) {
            keep(got, c.getModifiers(), c.toString());
        }
        for (Method m : CoinScripts.class.getDeclaredMethods()) {
            keep(got, m.getModifiers(), m.toString());
        }
        for (Field f : CoinScripts.class.getDeclaredFields()) {
            keep(got, f.getModifiers(), f.toString());
        }
        boolean isGood = want.equals(got) && CoinScripts.NONE == -1
                && Modifier.isFinal(CoinScripts.class.getModifiers())
                && Modifier.isPublic(CoinScripts.class.getModifiers());
        if (!isGood) {
            System.out.println("the face is " + got + ", due is " + want);
            System.exit(1);
        }
    }

    private static void keep(Set<String> got, int modifiers, String text) {
        if (!Modifier.isPrivate(modifiers)) {
            got.add(text);
        }
    }
}
