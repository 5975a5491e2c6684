import java.lang.reflect.Field;

/**
 * fill's FULL. No calls come to it, as ten ships make ten fillings at most and the ledger has room for forty:
 * so the number of its fillings is laid from inside.
 */
public final class FullLedgerTest extends Checks {
    private static final int MOST = 40;

    private static Field field(Class<?> of, String name) throws NoSuchFieldException {
        Field field = of.getDeclaredField(name);
        field.setAccessible(true);
        return field;
    }

    private static void layFillings(LaneLock x, int n) throws ReflectiveOperationException {
        Object keep = field(LaneLock.class, "now").get(x);
        field(keep.getClass(), "fillings").setInt(keep, n);
    }

    public static void main(String[] args) throws ReflectiveOperationException {
        LaneLock x = new LaneLock();
        x.ship(0, 0, 1, 0, 0);
        layFillings(x, MOST - 1);
        due("the last filling that the ledger has room for", x.fill(), 1);
        due("it went in by that", x.told(0, 9), MOST - 1);
        due("its water", x.spent(MOST - 1), 100);
        due("a full ledger", x.count(7), MOST);
        due("no room behind it", x.spent(MOST), NO);
        due("undone", x.undo(), 0);
        due("room for one", x.count(7), MOST - 1);
        layFillings(x, MOST);
        due("the ledger is full", x.fill(), FULL);
        due("it waits still", x.told(0, 6), 0);
        due("in its lane", x.lane(0, 0), 0);
        due("no more fillings", x.count(7), MOST);
        due("no deed", x.count(8), 0);
        due("it would go in", x.water(), 100);
        x.leave(0);
        due("nobody would go in, ahead of full", x.fill(), STATE);
        end("the ledger's ends");
    }
}
