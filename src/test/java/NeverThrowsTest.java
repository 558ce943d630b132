import java.lang.reflect.InvocationTargetException;
import java.lang.reflect.Method;
import java.lang.reflect.Modifier;
import java.util.Arrays;

/** LANGUAGE.md, 7: no call ever throws, whatever its numbers are, whatever was done before, behind the 512th call too. */
public final class NeverThrowsTest {
    private static final int MIN = Integer.MIN_VALUE, MAX = Integer.MAX_VALUE;
    private static final int[] MANY = {MIN, MIN + 1, -4096, -41, -15, -6, -2, -1, 0, 1, 2, 3, 4, 5, 6, 7, 9, 10, 15, 16,
        20, 21, 39, 40, 41, 63, 64, 99, 100, 255, 256, 4095, 4096, MAX - 14, MAX - 2, MAX - 1, MAX};
    private static final int[] FEW = {MIN, -3, -1, 0, 1, 2, 3, 6, 34, 37, 40, MAX - 2, MAX};
    private static final String[] TEXTS = {"shames age*last;costs 99;worth seen-number;",
        "shames doing<last;costs-1;worth-(doing-50)*9999*9999*9999;", "shames-9999*9999*9999;costs(1);worth not 0;"};
    private static int wrong;
    private static long asked;

    public static void main(String[] args) throws Exception {
        for (Method m : ToldByWitnesses.class.getDeclaredMethods()) {
            if (Modifier.isPublic(m.getModifiers())) {
                for (int state = 0; state < 4; state++) {
                    askAll(m, state, new Object[m.getParameterCount()], 0, made(state));
                }
            }
        }
        System.out.println("NeverThrowsTest: " + asked + " calls, " + wrong + " wrong");
        if (wrong != 0) {
            System.exit(1);
        }
    }

    private static void askAll(Method m, int state, Object[] numbers, int at, ToldByWitnesses x) throws Exception {
        if (at < numbers.length) {
            for (int n : numbers.length > 3 ? FEW : MANY) {
                numbers[at] = n;
                askAll(m, state, numbers, at + 1, x);
            }
            return;
        }
        asked++;
        try {
            m.invoke(x, numbers);
        } catch (InvocationTargetException e) {
            wrong++;
            System.out.println(m.getName() + Arrays.toString(numbers) + " in state " + state + " threw "
                    + e.getCause());
        }
    }

    /** 0: new; 1: all that there is room for, unseen by an image; 2: kept by one; 3: gone back to a new one's image. */
    private static ToldByWitnesses made(int state) {
        ToldByWitnesses x = new ToldByWitnesses();
        if (state == 3) {
            x.image();
        }
        if (state > 0) {
            fill(x);
        }
        if (state == 2) {
            x.image();
        }
        if (state == 3) {
            x.back();
        }
        return x;
    }

    private static void fill(ToldByWitnesses x) {
        for (int i = 0; i < 5; i++) {
            feed(x, TEXTS[i % TEXTS.length]);
            x.text();
        }
        x.force(1);
        x.set(0, 0, 99);
        for (int i = 0; i < 6; i++) {
            x.witness(i, i + 4, 63 - i * 3);
            x.set(4, i, i % 2);
            x.set(1, i, i % 4);
        }
        for (int i = 0; i < 161; i++) {
            x.feed(i % 2 == 0 ? '(' : '-');
        }
        x.sheet(0, 0, 40);
        x.sheet(1, 1, 0);
        x.sheet(2, 2, 6);
        for (int i = 0; i < 40; i++) {
            x.cell(0, i, i - 20);
            x.cell(2, i, i % 2 == 0 ? MIN : MAX);
        }
    }

    private static void feed(ToldByWitnesses x, String text) {
        for (int i = 0; i < text.length(); i++) {
            x.feed(text.charAt(i));
        }
    }
}
