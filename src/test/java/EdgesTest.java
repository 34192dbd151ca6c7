import java.lang.reflect.Method;
import java.util.ArrayList;
import java.util.List;

/** Every call with every mix of odd arguments, in three states: it never throws and answers as NaiveYard does. */
public final class EdgesTest {
  private static final int[] ODD = {Integer.MIN_VALUE, -1, 0, 1, 2, 5, 9, 12, 30, 31, 100, 511, 600, Integer.MAX_VALUE};
  private static final int[] FEW = {Integer.MIN_VALUE, -1, 0, 1, 5, 6, 30, Integer.MAX_VALUE};
  private static final int CALLS = 400;

  private static final Due due = new Due("EdgesTest");

  public static void main(String[] args) throws ReflectiveOperationException {
    for (Method method : HoopYard.class.getDeclaredMethods()) {
      if (java.lang.reflect.Modifier.isPublic(method.getModifiers())) {
        for (int state = 0; state < 3; state++) {
          callAll(method, state);
        }
      }
    }
    due.end();
  }

  private static void callAll(Method method, int state) throws ReflectiveOperationException {
    Method naive = NaiveYard.class.getDeclaredMethod(method.getName(), method.getParameterTypes());
    HoopYard yard = null;
    NaiveYard other = null;
    int calls = 0;
    for (Object[] mix : mixes(method.getParameterTypes())) {
      if (calls % CALLS == 0) {
        yard = new HoopYard();
        other = new NaiveYard();
        setUp(yard, other, state);
      }
      calls++;
      long got = ((Number) method.invoke(yard, mix)).longValue();
      long want = ((Number) naive.invoke(other, mix)).longValue();
      due.is(method.getName() + java.util.Arrays.toString(mix) + " in state " + state, got, want);
    }
  }

  private static List<Object[]> mixes(Class<?>[] types) {
    List<Object[]> all = new ArrayList<>();
    all.add(new Object[types.length]);
    for (int k = 0; k < types.length; k++) {
      List<Object[]> more = new ArrayList<>();
      for (Object[] begun : all) {
        for (int v : types.length > 4 ? FEW : ODD) {
          Object[] mix = begun.clone();
          if (types[k] == long.class) {
            mix[k] = Long.valueOf(v);
          } else {
            mix[k] = Integer.valueOf(v);
          }
          more.add(mix);
        }
      }
      all = more;
    }
    return all;
  }

  /** State 0: as made; 1: half full, all sorts of things on the pegs; 2: full, trays on the pegs. */
  private static void setUp(HoopYard y, NaiveYard n, int state) {
    int staves = state == 0 ? 0 : state == 1 ? 5 : 9;
    for (int i = 0; i < staves; i++) {
      due.is("stave", y.stave(i % 5, 5 + 7 * i, 1 + i, i - 4), n.stave(i % 5, 5 + 7 * i, 1 + i, i - 4));
    }
    for (int i = 0; i < staves * 2 / 3; i++) {
      due.is("hoop", y.hoop(i % 4, 85 + i, i % 2), n.hoop(i % 4, 85 + i, i % 2));
    }
    for (int i = 0; i < staves * 7 / 9; i++) {
      due.is("board", y.board(3 + i), n.board(3 + i));
    }
    for (int peg = 0; peg < staves && peg < 6; peg++) {
      int sort = peg % 2, many = peg == 5 ? 30 : peg + 4;
      due.is("tray", y.tray(peg, sort, many), n.tray(peg, sort, many));
      due.is("put", y.put(peg, 2, 77), n.put(peg, 2, 77));
      if (state == 1 && peg < 3) {
        due.is("hang", y.hang(peg, peg, 1), n.hang(peg, peg, 1));
      }
    }
    if (state > 0) {
      due.is("feed", y.feed('g'), n.feed('g'));
      due.is("image", y.image(), n.image());
    }
  }
}
