import java.lang.reflect.InvocationTargetException;
import java.lang.reflect.Method;
import java.util.ArrayList;
import java.util.Arrays;
import java.util.Comparator;
import java.util.List;
import java.util.Random;

/** Any call with any numbers, and texts of words and signs as they come: the class answers as the Model does. */
public final class RoughTest {
    private static final String[] WORDS = {"machine", "cups", "card", "fall", "warm", "see", "cost", "person", "comes", "put", "take",
        "look", "start", "empty", "clean", "dirty", "turn", "by", "if", "and", "or", "not", "in", "room", "minute", "seen", "last",
        "visit", "x", "cardx"};
    private static final String[] SIGNS = {";", ";", ";", "[", "]", "(", ")", "<", ">", "=", "+", "-", "*", " ", "  ", "\0", "&", "\u00ff", "A"};
    private static final int[] NUMBERS = {Integer.MIN_VALUE, Integer.MIN_VALUE + 1, -1000, -2, -1, 0, 0, 0, 1, 1, 1, 2, 2, 3, 4, 5, 6, 7, 9, 10,
        11, 12, 13, 16, 17, 23, 24, 25, 30, 40, 41, 99, 149, 150, 151, 479, 480, 481, 599, 600, 601, 1 << 30, Integer.MAX_VALUE - 1, Integer.MAX_VALUE};
    private static int wrong = 0;

    private final Random random;
    private final CardCups cups = new CardCups();
    private final Model model = new Model();
    private final StringBuilder told = new StringBuilder();
    private int asked = 0;

    private RoughTest(long seed) {
        random = new Random(seed);
    }

    private static List<Method> face() {
        List<Method> face = new ArrayList<>();
        for (Method m : CardCups.class.getDeclaredMethods()) {
            if (java.lang.reflect.Modifier.isPublic(m.getModifiers())) face.add(m);
        }
        face.sort(Comparator.comparing(Method::getName));
        return face;
    }

    private String salad() {
        StringBuilder s = new StringBuilder();
        int many = random.nextInt(40);
        for (int i = 0; i < many; i++) {
            int kind = random.nextInt(5);
            if (kind < 2) s.append(random.nextInt(3) == 0 ? "" : " ").append(WORDS[random.nextInt(WORDS.length)]);
            else if (kind == 2) s.append(' ').append(random.nextInt(random.nextInt(20) == 0 ? 1200 : 14));
            else s.append(SIGNS[random.nextInt(SIGNS.length)]);
        }
        return s.toString();
    }

    /** Opened often, and mostly shut again. */
    private String nest() {
        StringBuilder s = new StringBuilder("put if ");
        StringBuilder shut = new StringBuilder();
        int many = random.nextInt(9);
        int square = 0;
        for (int i = 0; i < many; i++) {
            int kind = random.nextInt(4);
            if (kind == 0 && square >= 0) s.append("not ");
            else if (kind == 1 && square >= 0) { s.append("["); shut.insert(0, "]"); }
            else if (kind == 2) { s.append("("); shut.insert(0, square >= 0 ? ")=1" : ")"); square = -1; }
            else s.append(square >= 0 ? "1=1 and " : "1+");
        }
        s.append(square < 0 ? "1" : "1=1").append(random.nextInt(6) == 0 ? "" : shut).append(";");
        return s.toString();
    }

    private String outcome(Method m, Object on, Object[] args) {
        try {
            return "" + m.invoke(on, args);
        } catch (InvocationTargetException e) {
            return e.getCause().getClass().getSimpleName();
        } catch (IllegalAccessException e) {
            return "no access";
        }
    }

    private boolean same(Method m, int... numbers) {
        // what calls answer behind the 512th is free
        if (asked == 512) return false;
        asked++;
        Object[] args = new Object[numbers.length];
        for (int i = 0; i < args.length; i++) args[i] = numbers[i];
        told.append(m.getName()).append(Arrays.toString(numbers)).append('\n');
        String got = outcome(m, cups, args);
        String due = due(m, numbers, args);
        if (got.equals(due)) return true;
        wrong++;
        System.out.println(told + "answered " + got + ", due is " + due);
        return false;
    }

    private String due(Method m, int[] numbers, Object[] args) {
        if (m.getName().equals("fault")) return "" + model.faultPlace;
        if (m.getName().equals("feed")) return "" + model.feed(numbers);
        try {
            return outcome(Model.class.getDeclaredMethod(m.getName(), m.getParameterTypes()), model, args);
        } catch (NoSuchMethodException e) {
            return "no such method " + m;
        }
    }

    private boolean text(List<Method> face, String text) {
        for (int i = 0; i < text.length(); i += 20) {
            int[] n = new int[5];
            for (int k = 0; k < 20; k++) n[k / 4] = n[k / 4] << 8 | (i + k < text.length() ? text.charAt(i + k) & 255 : 32);
            if (!same(find(face, "feed"), n)) return false;
        }
        int n = random.nextInt(12) == 0 ? random.nextInt(text.length() + 2) : text.length();
        String[] readers = {"office", "habit", "rule", "book"};
        int kind = random.nextInt(12);
        String reader = readers[kind == 0 ? 0 : kind < 6 ? 1 : kind < 9 ? 2 : 3];
        boolean fine = reader.equals("habit") ? same(find(face, reader), random.nextInt(3), n) : same(find(face, reader), n);
        return fine && same(find(face, "fault"));
    }

    private static Method find(List<Method> face, String name) {
        for (Method m : face) if (m.getName().equals(name)) return m;
        return null;
    }

    private void go(List<Method> face) {
        String first = "machine " + (1 + random.nextInt(12)) + ";cups 0 1;fall 3;person;person;person;comes 0 5;comes 1 9;comes 0 9;comes 2 480;";
        Check.feed(cups, first);
        asked = (first.length() + 19) / 20;
        byte[] b = new byte[(first.length() + 19) / 20 * 20];
        for (int i = 0; i < first.length(); i++) b[i] = (byte) first.charAt(i);
        for (byte one : b) model.tape.add(one);
        if (!same(find(face, "office"), first.length())) return;
        int calls = random.nextInt(30) == 0 ? 512 : 120;
        for (int i = 0; i < calls; i++) {
            int kind = random.nextInt(5);
            boolean fine;
            if (kind == 0) {
                fine = text(face, random.nextInt(3) == 0 ? nest() : salad());
            } else {
                Method m = face.get(random.nextInt(face.size()));
                int[] numbers = new int[m.getParameterCount()];
                for (int k = 0; k < numbers.length; k++) {
                    numbers[k] = random.nextInt(3) > 0 ? random.nextInt(5) : random.nextInt(30) == 0 ? random.nextInt() : NUMBERS[random.nextInt(NUMBERS.length)];
                }
                fine = same(m, numbers);
            }
            if (!fine) return;
        }
    }

    public static void main(String[] args) {
        int runs = args.length > 0 ? Integer.parseInt(args[0]) : 1000;
        long first = args.length > 1 ? Long.parseLong(args[1]) : 1;
        List<Method> face = face();
        for (int i = 0; i < runs && wrong < 3; i++) {
            new RoughTest(first + i).go(face);
        }
        System.out.println(wrong == 0 ? runs + " runs are as the model's" : wrong + " answers are not as the model's");
        if (wrong != 0) System.exit(1);
    }
}
