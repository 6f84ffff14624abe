import java.lang.management.ManagementFactory;
import java.lang.reflect.Constructor;
import java.lang.reflect.Field;
import java.lang.reflect.Method;
import java.lang.reflect.Modifier;
import java.util.ArrayList;
import java.util.List;
import java.util.Map;
import java.util.Set;
import java.util.TreeMap;
import java.util.TreeSet;

/**
 * 'The public face' of the document, as the compiled class has it; the calls that README.md shows;
 * and what an object's dearest calls take of the room that all calls share.
 */
public final class FaceTest extends Trial {
    /** As the document writes them, without the parameters' names. */
    private static final String[] METHODS = {
        "int feed(int, int, int, int, int)", "int trick(int)", "int fault()", "int where()", "int hands()",
        "int rows()", "int hand(int, int)", "int handOf(int, int, int, int, int)", "int row(int, int)",
        "int tilted(int)", "int fits(int, int)", "int fitting()", "int lays(int, int)", "int kept(int, int, int)",
        "int says(int, int)", "int works(int)", "int clash(int, boolean)", "int laid(int)", "int fails(int)",
        "int seen(int)", "int borne(int)", "int wordsWork(int)", "int shortest()", "int pairs()", "int table(int)",
        "long count(int, boolean)", "int most()", "int judge(int)", "int evening(int, boolean)", "int agrees(int)",
        "int wrong(int)", "int found()", "int apart(int, int)", "int mean(int, int, boolean)", "int hardest()",
        "int shows(int, int)", "boolean seed(int)", "int draw()", "boolean strike()", "int image()",
        "boolean back(int)", "int led(int, int) throws NoSuchElementException", "int size(int)", "int words(int)",
        "int trouble()"};

    /** A tenth of the room for some 7.3 million elements of four bytes. */
    private static final long ROOM = 2900000;

    public static void main(String[] args) {
        theClass();
        theMembers();
        noOtherMembers();
        theReadme();
        theRoom();
        theRoomOfCalls();
        finish();
    }

    // ---- the face

    private static void theClass() {
        sentence("the public face", "public final class FifthCard");
        same("modifiers", Modifier.toString(FifthCard.class.getModifiers()), "public final");
        same("package", FifthCard.class.getPackageName(), "");
        same("class above", FifthCard.class.getSuperclass().getName(), "java.lang.Object");
        due("interfaces", FifthCard.class.getInterfaces().length, 0);
    }

    private static void theMembers() {
        sentence("the public face", "every constant, constructor and method");
        Set<String> methods = new TreeSet<>();
        for (Method method : FifthCard.class.getDeclaredMethods()) {
            if (Modifier.isPublic(method.getModifiers())) {
                due("static " + method.getName(), Modifier.isStatic(method.getModifiers()), false);
                methods.add(heading(method));
            }
        }
        same("methods", methods.toString(), new TreeSet<>(Set.of(METHODS)).toString());
        Constructor<?>[] constructors = FifthCard.class.getDeclaredConstructors();
        due("constructors", constructors.length, 1);
        due("its parameters", constructors[0].getParameterCount(), 0);
        due("public constructor", Modifier.isPublic(constructors[0].getModifiers()), true);
        due("NONE", FifthCard.NONE, -1);
    }

    private static String heading(Method method) {
        StringBuilder s = new StringBuilder(method.getReturnType().getSimpleName());
        s.append(' ').append(method.getName());
        String parting = "(";
        for (Class<?> type : method.getParameterTypes()) {
            s.append(parting).append(type.getSimpleName());
            parting = ", ";
        }
        s.append(method.getParameterCount() == 0 ? "()" : ")");
        for (Class<?> type : method.getExceptionTypes()) {
            s.append(" throws ").append(type.getSimpleName());
        }
        return s.toString();
    }

    private static void noOtherMembers() {
        sentence("LANGUAGE.md, 1", "no other public, protected or package-visible member");
        Set<String> faced = new TreeSet<>();
        for (Method method : FifthCard.class.getMethods()) {
            faced.add(method.getName());
        }
        for (Method method : FifthCard.class.getDeclaredMethods()) {
            int modifiers = method.getModifiers();
            boolean open = Modifier.isPublic(modifiers);
            due("private " + method.getName(), open || Modifier.isPrivate(modifiers) || method.isSynthetic(), true);
            due("another " + method.getName(), !open && faced.contains(method.getName()), false);
        }
        for (Field field : FifthCard.class.getDeclaredFields()) {
            String wanted = field.getName().equals("NONE") ? "public" : "private";
            same("field " + field.getName(), Modifier.toString(field.getModifiers()).split(" ")[0], wanted);
            boolean still = !Modifier.isStatic(field.getModifiers()) || Modifier.isFinal(field.getModifiers());
            due("static field " + field.getName() + " is final", still, true);
        }
        for (Class<?> inside : FifthCard.class.getDeclaredClasses()) {
            int modifiers = inside.getModifiers();
            boolean closed = !Modifier.isPublic(modifiers) && !Modifier.isProtected(modifiers);
            due("class " + inside.getSimpleName(), closed && Modifier.isStatic(modifiers), true);
        }
    }

    // ---- the use

    private static void theReadme() {
        sentence("README.md", "Use");
        FifthCard x = new FifthCard();
        x.feed(1953655139, 1797284705, 1919185696, 941650805, 1769239328);
        x.feed(840984673, 1852055603, 543909232, 1948266784, 1936221499);
        x.feed(1920298085, 544743531, 1701146739, 544437613, 544499052);
        x.feed(1819484274, 1768843040, 538976288, 538976288, 538976288);
        due("trick(67)", x.trick(67), 1);
        due("hands()", x.hands(), 56);
        due("lays(0, 0)", x.lays(0, 0), 8);
        due("row(8, 0)", x.row(8, 0), 1);
        due("row(8, 1)", x.row(8, 1), 2);
        due("hand(0, 2)", x.hand(0, 2), 2);
        due("works(0)", x.works(0), 1);
    }

    /** Ever larger decks, since each that is larger than all before takes rows of its own. */
    private static void theRoom() {
        sentence("LANGUAGE.md, 12", "What a run makes is counted");
        List<String> texts = decksByRows();
        // a deck takes five calls, three of them to feed it
        texts = texts.subList(Math.max(0, texts.size() - 512 / 5), texts.size());
        long before = bytesMade();
        FifthCard x = new FifthCard();
        for (String text : texts) {
            tell(x, text);
            due("table(0) of '" + text + "'", x.table(0) >= 0, true);
        }
        long made = bytesMade() - before;
        due("little enough is made, " + made + " bytes", made < ROOM, true);
    }

    /** What a TRICK needs is made once; later calls take the same rows again. */
    private static void theRoomOfCalls() {
        sentence("LANGUAGE.md, 12", "keep it small");
        String deck = "trick cards 10 suits 2 hand 5 kept 1 she tilts";
        FifthCard x = told(deck + FOUR_RULES + ";evening 0,1,2,3,4 shows 0,1,2,3");
        x.image();
        askAll(x, 0);
        long before = bytesMade();
        for (int i = 1; i < 20; i++) {
            askAll(x, i);
        }
        long made = bytesMade() - before;
        due("nothing is made, " + made + " bytes", made < 4000, true);
    }

    private static void askAll(FifthCard x, int i) {
        int rule = i % 4;
        x.handOf(9, 0, 4, 2, 7);
        x.row(i, 2);
        x.fits(i, i);
        x.kept(rule, i, 0);
        x.says(rule, i);
        x.works(rule);
        x.seen(rule);
        x.borne(rule);
        x.wordsWork(i);
        x.shortest();
        x.pairs();
        x.table(i);
        x.most();
        x.found();
        x.mean(rule, 3 - rule, true);
        x.hardest();
        x.shows(rule, i);
        x.strike();
        x.back(0);
        x.draw();
    }

    /** All decks with a TABLE, by how many ROWS they have. */
    private static List<String> decksByRows() {
        String[] ways = {"stranger", "she held", "she", "stranger tilts", "she held tilts", "she tilts"};
        Map<Integer, String> texts = new TreeMap<>();
        for (int cards = 4; cards <= 12; cards++) {
            for (int hand = 2; hand <= 5 && hand <= cards; hand++) {
                for (String way : ways) {
                    String text = "trick cards " + cards + " suits 1 hand " + hand + " kept 1 " + way;
                    FifthCard x = new FifthCard();
                    if (tell(x, text) == 0 && x.table(0) >= 0) {
                        texts.put(x.rows(), text);
                    }
                }
            }
        }
        return new ArrayList<>(texts.values());
    }

    /** 0 on a machine that doesn't count them. */
    private static long bytesMade() {
        if (ManagementFactory.getThreadMXBean() instanceof com.sun.management.ThreadMXBean bean
            && bean.isThreadAllocatedMemorySupported()) {
            return bean.getThreadAllocatedBytes(Thread.currentThread().getId());
        }
        return 0;
    }
}
