/** Promises 1 to 6: a new object, owner, account, month, close, batch. */
public final class BooksTest {
    private static final Check CHECK = new Check();

    public static void main(String[] args) {
        newObject();
        owners();
        accounts();
        months();
        closing();
        batches();
        batchRefusalsInOrder();
        CHECK.end();
    }

    private static void newObject() {
        OwnerLedger x = new OwnerLedger();
        for (int what = 0; what <= 8; what++) {
            int asked = what;
            CHECK.due("1: count(" + what + ") of a new object", 0, () -> x.count(asked));
        }
        for (int currency = 0; currency <= 2; currency++) {
            int asked = currency;
            CHECK.due("1: all(" + currency + ") of a new object", 0, () -> x.all(asked));
        }
        CHECK.refused("1: no owner 0", Check.NO_SUCH, () -> x.credit(0));
        CHECK.refused("1: no account 0", Check.NO_SUCH, () -> x.balance(0, 0));
        CHECK.refused("1: no batch 1", Check.NO_SUCH, () -> x.told(1, 0));
        CHECK.refused("1: no invoice 1", Check.NO_SUCH, () -> x.known(1, 0));
        OwnerLedger other = new OwnerLedger();
        x.owner();
        CHECK.due("1: objects share nothing", 0, () -> other.count(0));
    }

    private static void owners() {
        OwnerLedger x = new OwnerLedger();
        for (int i = 0; i < 6; i++) {
            CHECK.due("2: owner() the " + i + "th", i, () -> x.owner());
        }
        CHECK.refused("2: a seventh owner", Check.ROOM, () -> x.owner());
        CHECK.due("2: six owners stay", 6, () -> x.count(0));
        CHECK.due("2: no credit at first", 0, () -> x.credit(5));
        CHECK.due("2: not held at first", 0, () -> x.count(8));
    }

    private static void accounts() {
        OwnerLedger x = new OwnerLedger();
        CHECK.refused("3: no owner yet", Check.NO_SUCH, () -> x.account(0, 0));
        x.owner();
        x.owner();
        CHECK.refused("3: owner -1", Check.NO_SUCH, () -> x.account(-1, 0));
        CHECK.refused("3: owner 2 of two", Check.NO_SUCH, () -> x.account(2, 0));
        CHECK.refused("3: owner past the room", Check.NO_SUCH, () -> x.account(6, 0));
        CHECK.refused("3: the owner before the currency", Check.NO_SUCH, () -> x.account(2, 3));
        CHECK.refused("3: currency 3", Check.ARGUMENT, () -> x.account(0, 3));
        CHECK.refused("3: currency -1", Check.ARGUMENT, () -> x.account(0, -1));
        CHECK.due("3: none was made", 0, () -> x.count(1));
        for (int i = 0; i < 20; i++) {
            int number = i;
            CHECK.due("3: account the " + i + "th", i, () -> x.account(number % 2, number % 3));
        }
        CHECK.refused("3: a 21st account", Check.ROOM, () -> x.account(0, 0));
        CHECK.refused("3: the currency before the room", Check.ARGUMENT, () -> x.account(0, 3));
        CHECK.refused("3: the owner before the room", Check.NO_SUCH, () -> x.account(2, 0));
        CHECK.due("3: twenty accounts stay", 20, () -> x.count(1));
        CHECK.due("11: the last there can be", 0, () -> x.balance(19, 0));
        CHECK.refused("11: behind the last", Check.NO_SUCH, () -> x.balance(20, 0));
    }

    private static void months() {
        OwnerLedger x = new OwnerLedger();
        CHECK.refusedStep("4: month -1", Check.ARGUMENT, () -> x.month(-1));
        CHECK.refusedStep("4: month 121", Check.ARGUMENT, () -> x.month(121));
        CHECK.refusedStep("4: the least int", Check.ARGUMENT, () -> x.month(Integer.MIN_VALUE));
        CHECK.passes("4: the month that is", () -> x.month(0));
        CHECK.passes("4: month 7", () -> x.month(7));
        CHECK.due("4: it is 7", 7, () -> x.count(6));
        CHECK.refusedStep("4: before the one that is", Check.ARGUMENT, () -> x.month(6));
        CHECK.passes("4: 7 again", () -> x.month(7));
        CHECK.passes("4: the last month", () -> x.month(120));
        CHECK.refusedStep("4: behind the last", Check.ARGUMENT, () -> x.month(121));
        CHECK.due("4: it is 120", 120, () -> x.count(6));
    }

    private static void closing() {
        OwnerLedger x = new OwnerLedger();
        CHECK.due("5: close(0) at first", 0, () -> x.close(0));
        CHECK.refused("5: behind the month that is", Check.ARGUMENT, () -> x.close(1));
        CHECK.refused("5: close(-1)", Check.ARGUMENT, () -> x.close(-1));
        x.month(9);
        CHECK.due("5: months 0 .. 3", 4, () -> x.close(4));
        CHECK.due("5: count of those", 4, () -> x.count(7));
        CHECK.due("5: the same again", 0, () -> x.close(4));
        CHECK.refused("5: fewer", Check.STATE, () -> x.close(3));
        CHECK.refused("5: none", Check.STATE, () -> x.close(0));
        CHECK.refused("5: the range before the state", Check.ARGUMENT, () -> x.close(-1));
        CHECK.refused("5: one too many", Check.ARGUMENT, () -> x.close(10));
        CHECK.due("5: a refusal closes nothing", 4, () -> x.count(7));
        CHECK.due("5: all before the month that is", 5, () -> x.close(9));
        CHECK.due("5: nine are closed", 9, () -> x.count(7));
    }

    private static void batches() {
        OwnerLedger x = new OwnerLedger();
        CHECK.refused("6: behind the month that is", Check.ARGUMENT, () -> x.batch(1));
        CHECK.refused("6: batch(-1)", Check.ARGUMENT, () -> x.batch(-1));
        CHECK.due("6: the first", 1, () -> x.batch(0));
        x.month(5);
        CHECK.due("6: for an earlier month", 2, () -> x.batch(3));
        CHECK.due("6: its month", 3, () -> x.told(2, 1));
        CHECK.due("6: it is OPEN", 0, () -> x.told(2, 0));
        CHECK.due("6: it has no rows", 0, () -> x.told(2, 2));
        x.close(4);
        CHECK.refused("6: a closed month", Check.STATE, () -> x.batch(3));
        CHECK.refused("6: the first closed month", Check.STATE, () -> x.batch(0));
        CHECK.due("6: the first month that is not closed", 3, () -> x.batch(4));
        CHECK.due("6: the month that is", 4, () -> x.batch(5));
        CHECK.due("6: the month goes on without them", 5, () -> x.told(4, 1));
        CHECK.due("6: count", 4, () -> x.count(2));
    }

    private static void batchRefusalsInOrder() {
        OwnerLedger x = new OwnerLedger();
        x.month(2);
        x.close(1);
        for (int i = 1; i <= 30; i++) {
            CHECK.due("6: batch " + i, i, () -> x.batch(1));
        }
        CHECK.refused("6: a 31st batch", Check.ROOM, () -> x.batch(1));
        CHECK.refused("6: the state before the room", Check.STATE, () -> x.batch(0));
        CHECK.refused("6: the range before the room", Check.ARGUMENT, () -> x.batch(3));
        CHECK.due("6: thirty batches stay", 30, () -> x.count(2));
        CHECK.due("21: the last there can be", 1, () -> x.told(30, 1));
        CHECK.refused("21: behind the last", Check.NO_SUCH, () -> x.told(31, 1));
    }
}
