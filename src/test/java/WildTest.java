import java.lang.reflect.InvocationTargetException;
import java.lang.reflect.Method;
import java.util.ArrayList;
import java.util.List;
import java.util.Random;

/** Any calls with any arguments: nothing is thrown, two objects answer alike, and what only asks changes nothing. */
public final class WildTest {
    private static final int[] EDGES = {0, 1, 2, 3, -1, -2, 5, 12, 24, 60, 61, 199, 200, 2000000000, Integer.MAX_VALUE, Integer.MIN_VALUE};

    public static void main(String[] args) throws IllegalAccessException {
        List<Method> all = new ArrayList<>();
        for (Method m : MoleBoard.class.getDeclaredMethods()) {
            if (java.lang.reflect.Modifier.isPublic(m.getModifiers())) {
                all.add(m);
            }
        }
        all.sort((a, b) -> a.getName().compareTo(b.getName()));
        Check.due("methods of the face", all.size(), 70);
        for (int seed = 0; seed < 600; seed++) {
            wild(all, new Random(seed));
        }
        Check.end("WildTest");
    }

    private static void wild(List<Method> all, Random lot) throws IllegalAccessException {
        MoleBoard x = new MoleBoard();
        MoleBoard y = new MoleBoard();
        for (int i = 0; i < 400; i++) {
            if (lot.nextInt(40) == 0) {
                String text = text(lot);
                Check.tell(x, text);
                Check.tell(y, text);
                Check.due("board()", x.board(), y.board());
            }
            Method m = all.get(lot.nextInt(all.size()));
            Object[] arguments = arguments(m, lot);
            Object of = call(m, x, arguments);
            Check.due(m.getName() + java.util.Arrays.toString(arguments), ((Number) of).longValue(), ((Number) call(m, y, arguments)).longValue());
            x.end(0);
            y.end(0);
        }
    }

    private static Object call(Method m, MoleBoard x, Object[] arguments) throws IllegalAccessException {
        try {
            return m.invoke(x, arguments);
        } catch (InvocationTargetException e) {
            System.out.println(m.getName() + java.util.Arrays.toString(arguments) + " threw " + e.getCause());
            Check.due(m.getName() + " throws", 1, 0);
            return 0;
        }
    }

    private static Object[] arguments(Method m, Random lot) {
        Object[] all = new Object[m.getParameterCount()];
        for (int i = 0; i < all.length; i++) {
            int n = lot.nextInt(3) > 0 ? lot.nextInt(4) : lot.nextInt(8) == 0 ? lot.nextInt() : EDGES[lot.nextInt(EDGES.length)];
            all[i] = m.getParameterTypes()[i] == long.class ? (Object) (lot.nextInt(4) == 0 ? lot.nextLong() : (long) n) : (Object) n;
        }
        return all;
    }

    private static String text(Random lot) {
        switch (lot.nextInt(8)) {
            case 0:
                return Boards.SHUT;
            case 1:
                return Boards.TWELVE + Boards.player(1, 0, 0, 0, 0) + Boards.player(9, 20, 1, 9, 11) + Boards.player(2, 1, 3, 2, 6);
            case 2:
                return Boards.line(4, 200, "twin 0 3; red 2; good 1; twin 3 1;" + Boards.player(1, 0, 99, 3, 0) + Boards.player(1, 0, 0, 0, 3));
            case 3:
                return "board wide 4 high 3 ticks 200 pause 0; stay 1 from 0; twin 0 11; twin 3 8; twin 5 6; good 1; good 2;" + Boards.player(1, 0, 9, 1, 0) + Boards.player(1, 0, 0, 0, 11);
            case 4:
                return "board wide 1 high 1 ticks 1 pause 0;" + Boards.player(9, 20, 99, 9, 0);
            case 5:
                return "";
            case 6:
                return Boards.NINE.substring(0, lot.nextInt(Boards.NINE.length()));
            default:
                return Boards.NINE;
        }
    }
}
