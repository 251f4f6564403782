import java.util.List;
import java.util.Random;

/** LEAST against trying every mend: whole rows, on webs and laws that need two and three cells or have many mends. */
public final class LeastTest {
    private final Random random;
    private final MendedWebs ours = new MendedWebs();
    private final NaiveWebs naive = new NaiveWebs();

    private LeastTest(long seed) {
        random = new Random(seed);
    }

    private String law() {
        int a = random.nextInt(3);
        int b = random.nextInt(3);
        switch (random.nextInt(10)) {
            case 0: return "list " + a;
            case 1: return "twin " + a;
            case 2: return "rise " + a;
            case 3: return "apart " + a + " " + b;
            case 4: return "keep total " + a + " > " + random.nextInt(30);
            case 5: return "keep name 0 + name 1 + name 2 > " + random.nextInt(28);
            case 6: return "keep length " + a + " = " + random.nextInt(7);
            case 7: return "keep length 0 + length 1 + length 2 > " + random.nextInt(9);
            case 8: return "keep total " + a + " = name " + b;
            default: return "keep total 0 + total 1 > 20 and name " + a + " = length " + b;
        }
    }

    private void both(String laws, int[] cells) {
        int[] text = laws.chars().toArray();
        for (int i = 0; i < text.length; i += 20) {
            ours.feed(Checks.four(text, i), Checks.four(text, i + 4), Checks.four(text, i + 8), Checks.four(text, i + 12),
                Checks.four(text, i + 16));
            naive.feed(Checks.four(text, i), Checks.four(text, i + 4), Checks.four(text, i + 8), Checks.four(text, i + 12),
                Checks.four(text, i + 16));
        }
        ours.end(text.length);
        naive.end(text.length);
        ours.laws();
        naive.laws();
        for (int i = 0; i < 24; i++) {
            ours.flip(i, cells[i]);
            naive.flip(i, cells[i]);
        }
    }

    private int[] cells(int full) {
        int[] cells = new int[24];
        for (int i = 0; i < 24; i++) {
            boolean number = i >= 3 && (i < 6 || i % 3 == 2);
            cells[i] = number ? random.nextInt(10) : random.nextInt(full) == 0 ? -1 : random.nextInt(6);
        }
        return cells;
    }

    private boolean alike(int m) {
        List<int[]> due = naive.rows(m);
        int size = due.isEmpty() ? 0 : due.get(0).length / 2;
        for (int what = -1; what <= 3; what++) if (ours.least(m, what) != naive.least(m, what)) return false;
        for (int i = 0; i < due.size(); i++) {
            for (int k = 0; k < size; k++) {
                if (ours.mends(m, i, k, 0) != due.get(i)[2 * k] || ours.mends(m, i, k, 1) != due.get(i)[2 * k + 1])
                    return false;
            }
            if (ours.mends(m, i, size, 0) != -1000) return false;
        }
        return ours.mends(m, due.size(), 0, 0) == -1000;
    }

    private String go() {
        StringBuilder laws = new StringBuilder(law());
        int more = random.nextInt(4);
        for (int i = 0; i < more; i++) laws.append(";").append(law());
        both(laws.toString(), cells(1 + random.nextInt(6)));
        int most = 1 + random.nextInt(random.nextBoolean() ? 2 : 9);
        for (int kind = 0; kind < 5; kind++) {
            int price = 1 + random.nextInt(most);
            ours.price(kind, price);
            naive.price(kind, price);
        }
        if (random.nextInt(3) == 0) {
            ours.copy();
            naive.copy();
            int[] other = cells(3);
            for (int i = 0; i < 24; i++) {
                if (random.nextInt(3) == 0) {
                    ours.flip(i, other[i]);
                    naive.flip(i, other[i]);
                }
            }
        }
        int weighty = random.nextInt(1 << 24) & random.nextInt(1 << 24);
        ours.weighty(weighty);
        naive.weighty(weighty);
        for (int m = 1; m <= 3; m++) if (!alike(m)) return laws + ", m " + m;
        return "";
    }

    /** Arguments: the first seed, how many webs. */
    public static void main(String[] args) {
        long first = args.length > 0 ? Long.parseLong(args[0]) : 1;
        int runs = args.length > 1 ? Integer.parseInt(args[1]) : 120;
        int many = 0;
        for (long seed = first; seed < first + runs; seed++) {
            LeastTest test = new LeastTest(seed);
            String wrong = test.go();
            Checks.due("web " + seed + " (" + wrong + ")", wrong.isEmpty() ? 1 : 0, 1);
            if (test.ours.least(3, 1) == 501) many++;
        }
        System.out.println("webs with more than 500 mends: " + many);
        Checks.close();
    }
}
