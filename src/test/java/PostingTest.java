/** Promises 7 to 12 and 21: row, breaks, post, reverse, balance, all, told. */
public final class PostingTest {
    private static final Check CHECK = new Check();
    private static final long MOST = 1000000000L;

    public static void main(String[] args) {
        rows();
        rowRefusalsInOrder();
        breaking();
        posting();
        postingIntoClosedMonths();
        sumsByCurrency();
        reversing();
        reverseRefusals();
        balancesByMonths();
        largeBalances();
        sumsOfAll();
        telling();
        CHECK.end();
    }

    /** Two owners; accounts 0 and 1 of currency 0, 2 and 3 of currency 1, 4 of currency 2. */
    private static OwnerLedger ledger() {
        OwnerLedger x = new OwnerLedger();
        x.owner();
        x.owner();
        x.account(0, 0);
        x.account(1, 0);
        x.account(0, 1);
        x.account(1, 1);
        x.account(1, 2);
        return x;
    }

    /** Posts a batch of two rows for a month: its number. */
    private static int posted(OwnerLedger x, int month, int from, int to, long cents) {
        int batch = x.batch(month);
        x.row(batch, from, -cents);
        x.row(batch, to, cents);
        CHECK.due("posting " + cents, 1, () -> x.post(batch));
        return batch;
    }

    private static void rows() {
        OwnerLedger x = ledger();
        x.batch(0);
        CHECK.refused("7: no batch 0", Check.NO_SUCH, () -> x.row(0, 0, 5));
        CHECK.refused("7: no batch 2", Check.NO_SUCH, () -> x.row(2, 0, 5));
        CHECK.refused("7: no batch 31", Check.NO_SUCH, () -> x.row(31, 0, 5));
        CHECK.refused("7: no batch -1", Check.NO_SUCH, () -> x.row(-1, 0, 5));
        CHECK.refused("7: the least int", Check.NO_SUCH, () -> x.row(Integer.MIN_VALUE, 0, 5));
        CHECK.refused("7: no account 5", Check.NO_SUCH, () -> x.row(1, 5, 5));
        CHECK.refused("7: no account -1", Check.NO_SUCH, () -> x.row(1, -1, 5));
        CHECK.refused("7: no account 20", Check.NO_SUCH, () -> x.row(1, 20, 5));
        CHECK.refused("7: 0 cents", Check.ARGUMENT, () -> x.row(1, 0, 0));
        CHECK.refused("7: too many cents", Check.ARGUMENT, () -> x.row(1, 0, MOST + 1));
        CHECK.refused("7: too few cents", Check.ARGUMENT, () -> x.row(1, 0, -MOST - 1));
        CHECK.refused("7: cents of 64 bits", Check.ARGUMENT, () -> x.row(1, 0, (1L << 32) + 5));
        CHECK.due("7: none was added", 0, () -> x.told(1, 2));
        CHECK.due("7: the most cents", 1, () -> x.row(1, 0, MOST));
        CHECK.due("7: the least cents", 2, () -> x.row(1, 1, -MOST));
        CHECK.due("7: 1 cent", 3, () -> x.row(1, 4, 1));
        CHECK.due("7: -1 cent", 4, () -> x.row(1, 4, -1));
        CHECK.due("7: told of 4", 4, () -> x.told(1, 2));
        CHECK.due("7: a row is not posted yet", 0, () -> x.balance(0, 120));
    }

    private static void rowRefusalsInOrder() {
        OwnerLedger x = ledger();
        x.batch(0);
        for (int i = 1; i <= 8; i++) {
            int sign = i % 2 == 0 ? 1 : -1;
            CHECK.due("7: row " + i, i, () -> x.row(1, 0, sign));
        }
        CHECK.refused("7: a ninth row", Check.ROOM, () -> x.row(1, 0, 1));
        CHECK.refused("7: the range before the room", Check.ARGUMENT, () -> x.row(1, 0, 0));
        CHECK.refused("7: the account before the room", Check.NO_SUCH, () -> x.row(1, 5, 1));
        CHECK.refused("7: the account before the range", Check.NO_SUCH, () -> x.row(1, 5, 0));
        CHECK.due("7: eight rows are posted", 1, () -> x.post(1));
        CHECK.refused("7: the state before the room", Check.STATE, () -> x.row(1, 0, 1));
        CHECK.refused("7: the range before the state", Check.ARGUMENT, () -> x.row(1, 0, 0));
        CHECK.refused("7: the account before the state", Check.NO_SUCH, () -> x.row(1, 5, 1));
        x.batch(0);
        x.row(2, 0, 1);
        CHECK.due("7: a batch that fails", -9, () -> x.post(2));
        CHECK.refused("7: a row of a FAILED batch", Check.STATE, () -> x.row(2, 0, -1));
        x.batch(0);
        x.month(3);
        x.close(3);
        CHECK.due("7: an open batch of a closed month", 1, () -> x.row(3, 0, 1));
    }

    private static void breaking() {
        OwnerLedger x = ledger();
        x.batch(0);
        CHECK.refusedStep("8: no rows yet", Check.NO_SUCH, () -> x.breaks(1, 0, true));
        x.row(1, 0, 5);
        x.row(1, 1, -5);
        CHECK.refusedStep("8: no batch", Check.NO_SUCH, () -> x.breaks(2, 0, true));
        CHECK.refusedStep("8: no row 2", Check.NO_SUCH, () -> x.breaks(1, 2, true));
        CHECK.refusedStep("8: no row -1", Check.NO_SUCH, () -> x.breaks(1, -1, true));
        CHECK.refusedStep("8: no row 8", Check.NO_SUCH, () -> x.breaks(1, 8, true));
        CHECK.passes("8: row 0 breaks", () -> x.breaks(1, 0, true));
        CHECK.passes("8: it does so still", () -> x.breaks(1, 0, true));
        CHECK.passes("8: it does not any more", () -> x.breaks(1, 0, false));
        CHECK.passes("8: nor row 1", () -> x.breaks(1, 1, false));
        CHECK.due("8: so it is posted", 1, () -> x.post(1));
        CHECK.refusedStep("8: a POSTED batch", Check.STATE, () -> x.breaks(1, 0, true));
        CHECK.refusedStep("8: the row before the state", Check.NO_SUCH, () -> x.breaks(1, 2, true));
        x.batch(0);
        x.row(2, 0, 5);
        x.breaks(2, 0, true);
        CHECK.due("8: row 0 broke", -1, () -> x.post(2));
        CHECK.refusedStep("8: a FAILED batch", Check.STATE, () -> x.breaks(2, 0, false));
    }

    private static void posting() {
        OwnerLedger x = ledger();
        CHECK.refused("9: no batch", Check.NO_SUCH, () -> x.post(1));
        CHECK.refused("9: no batch 0", Check.NO_SUCH, () -> x.post(0));
        x.batch(0);
        CHECK.refused("9: no rows", Check.STATE, () -> x.post(1));
        CHECK.due("9: it is OPEN still", 0, () -> x.told(1, 0));
        x.row(1, 0, 30);
        x.row(1, 1, -30);
        CHECK.due("9: POSTED", 1, () -> x.post(1));
        CHECK.due("9: state POSTED", 1, () -> x.told(1, 0));
        CHECK.due("9: the first account", 30, () -> x.balance(0, 0));
        CHECK.due("9: the second one", -30, () -> x.balance(1, 0));
        CHECK.refused("9: POSTED is not OPEN", Check.STATE, () -> x.post(1));
        CHECK.due("9: nothing is posted twice", 30, () -> x.balance(0, 0));
        for (int broken = 0; broken < 8; broken++) {
            breakAt(x, broken);
        }
        CHECK.due("9: all is as it was before", 30, () -> x.balance(0, 120));
        CHECK.due("9: one is posted", 1, () -> x.count(3));
        unevenSums(x);
    }

    private static void breakAt(OwnerLedger x, int broken) {
        int batch = x.batch(0);
        for (int i = 0; i < 8; i++) {
            x.row(batch, 0, 7);
        }
        x.breaks(batch, 7, true);
        x.breaks(batch, broken, true);
        CHECK.due("9: broke at row " + broken + ", the first that breaks, before the sums",
                -1 - broken, () -> x.post(batch));
        CHECK.due("9: state FAILED", 2, () -> x.told(batch, 0));
        CHECK.refused("9: FAILED is not OPEN", Check.STATE, () -> x.post(batch));
    }

    private static void unevenSums(OwnerLedger x) {
        int batch = x.batch(0);
        x.row(batch, 0, 30);
        x.row(batch, 1, -29);
        CHECK.due("9: the sum is not 0", -9, () -> x.post(batch));
        CHECK.due("9: FAILED by its sum", 2, () -> x.told(batch, 0));
        CHECK.refused("9: FAILED stays so", Check.STATE, () -> x.post(batch));
        CHECK.due("9: as before that one too", 30, () -> x.balance(0, 120));
    }

    private static void postingIntoClosedMonths() {
        OwnerLedger x = ledger();
        x.month(4);
        for (int month = 1; month <= 3; month++) {
            int batch = x.batch(month);
            x.row(batch, 0, 5);
            x.row(batch, 1, -5);
        }
        x.close(3);
        CHECK.refused("9: month 1 is closed by now", Check.STATE, () -> x.post(1));
        CHECK.refused("9: month 2 is closed by now", Check.STATE, () -> x.post(2));
        CHECK.due("9: it is OPEN still", 0, () -> x.told(2, 0));
        CHECK.due("9: month 3 is not closed", 1, () -> x.post(3));
        CHECK.due("9: in the month of the batch", 5, () -> x.balance(0, 3));
        CHECK.due("9: not before", 0, () -> x.balance(0, 2));
    }

    private static void sumsByCurrency() {
        OwnerLedger x = ledger();
        x.batch(0);
        x.row(1, 0, 5);
        x.row(1, 2, -5);
        CHECK.due("9: currencies do not mix", -9, () -> x.post(1));
        x.batch(0);
        x.row(2, 4, 5);
        CHECK.due("9: the last currency counts", -9, () -> x.post(2));
        x.batch(0);
        x.row(3, 0, 5);
        x.row(3, 2, 6);
        x.row(3, 1, -5);
        x.row(3, 3, -6);
        x.row(3, 4, 7);
        x.row(3, 4, -7);
        CHECK.due("9: each currency for itself", 1, () -> x.post(3));
        CHECK.due("9: two rows of one account", 0, () -> x.balance(4, 0));
        CHECK.due("9: currency 1", -6, () -> x.balance(3, 0));
    }

    private static void reversing() {
        OwnerLedger x = ledger();
        posted(x, 0, 0, 1, 40);
        x.month(6);
        x.close(6);
        CHECK.due("10: the reversal's number", 2, () -> x.reverse(1));
        CHECK.due("10: it is POSTED", 1, () -> x.told(2, 0));
        CHECK.due("10: for the month that is", 6, () -> x.told(2, 1));
        CHECK.due("10: with as many rows", 2, () -> x.told(2, 2));
        CHECK.due("10: told of the reversed one", 2, () -> x.told(1, 3));
        CHECK.due("10: told of the reversal", 1, () -> x.told(2, 4));
        CHECK.due("10: the reversed one is POSTED still", 1, () -> x.told(1, 0));
        CHECK.due("10: earlier months stay", 40, () -> x.balance(1, 5));
        CHECK.due("10: the other sign", 0, () -> x.balance(1, 6));
        CHECK.due("10: of each row", 0, () -> x.balance(0, 6));
        CHECK.due("10: two are posted", 2, () -> x.count(3));
        CHECK.refused("10: it was reversed", Check.STATE, () -> x.reverse(1));
        CHECK.refused("10: it is a reversal", Check.STATE, () -> x.reverse(2));
        CHECK.refusedStep("10: a reversal is not OPEN", Check.STATE, () -> x.breaks(2, 1, true));
        CHECK.refused("10: and takes no rows", Check.STATE, () -> x.row(2, 0, 1));
        CHECK.refused("10: and is not posted again", Check.STATE, () -> x.post(2));
        CHECK.refusedStep("10: it has no third row", Check.NO_SUCH, () -> x.breaks(2, 2, true));
        CHECK.due("10: two batches", 2, () -> x.count(2));
    }

    private static void reverseRefusals() {
        OwnerLedger x = ledger();
        CHECK.refused("10: no batch", Check.NO_SUCH, () -> x.reverse(1));
        posted(x, 0, 0, 1, MOST);
        x.batch(0);
        CHECK.refused("10: an OPEN one", Check.STATE, () -> x.reverse(2));
        x.row(2, 0, 1);
        x.post(2);
        CHECK.refused("10: a FAILED one", Check.STATE, () -> x.reverse(2));
        for (int i = 3; i <= 30; i++) {
            x.batch(0);
        }
        CHECK.refused("10: no room", Check.ROOM, () -> x.reverse(1));
        CHECK.refused("10: the state before the room", Check.STATE, () -> x.reverse(2));
        CHECK.refused("10: the batch before the room", Check.NO_SUCH, () -> x.reverse(31));
        CHECK.due("10: nothing was reversed", 0, () -> x.told(1, 3));
        CHECK.due("10: balances stay", MOST, () -> x.balance(1, 0));
    }

    private static void balancesByMonths() {
        OwnerLedger x = ledger();
        x.month(120);
        posted(x, 0, 0, 1, 1);
        posted(x, 60, 0, 1, 20);
        posted(x, 120, 0, 1, 300);
        posted(x, 61, 1, 0, 4000);
        CHECK.due("11: month 0", 1, () -> x.balance(1, 0));
        CHECK.due("11: month 59", 1, () -> x.balance(1, 59));
        CHECK.due("11: month 60", 21, () -> x.balance(1, 60));
        CHECK.due("11: month 61", -3979, () -> x.balance(1, 61));
        CHECK.due("11: month 119", -3979, () -> x.balance(1, 119));
        CHECK.due("11: month 120", -3679, () -> x.balance(1, 120));
        CHECK.due("11: the other account", 3679, () -> x.balance(0, 120));
        CHECK.due("11: an account without rows", 0, () -> x.balance(2, 120));
        CHECK.refused("11: month 121", Check.ARGUMENT, () -> x.balance(0, 121));
        CHECK.refused("11: month -1", Check.ARGUMENT, () -> x.balance(0, -1));
        CHECK.refused("11: no account 5", Check.NO_SUCH, () -> x.balance(5, 0));
        CHECK.refused("11: no account -1", Check.NO_SUCH, () -> x.balance(-1, 0));
        CHECK.refused("11: the account before the month", Check.NO_SUCH, () -> x.balance(5, 121));
        OwnerLedger early = ledger();
        CHECK.due("11: months to come", 0, () -> early.balance(0, 120));
    }

    private static void largeBalances() {
        OwnerLedger x = ledger();
        for (int i = 1; i <= 30; i++) {
            int batch = x.batch(0);
            for (int row = 0; row < 4; row++) {
                x.row(batch, 0, MOST);
                x.row(batch, 1, -MOST);
            }
            x.post(batch);
        }
        CHECK.due("11: 120 rows of the most cents", 120 * MOST, () -> x.balance(0, 0));
        CHECK.due("11: 120 of the least", -120 * MOST, () -> x.balance(1, 0));
    }

    private static void sumsOfAll() {
        OwnerLedger x = ledger();
        posted(x, 0, 0, 1, 40);
        posted(x, 0, 2, 3, 50);
        int broken = x.batch(0);
        x.row(broken, 0, 3);
        x.post(broken);
        int open = x.batch(0);
        x.row(open, 2, 3);
        for (int currency = 0; currency <= 2; currency++) {
            int asked = currency;
            CHECK.due("12: all(" + currency + ")", 0, () -> x.all(asked));
        }
        CHECK.refused("12: all(3)", Check.ARGUMENT, () -> x.all(3));
        CHECK.refused("12: all(-1)", Check.ARGUMENT, () -> x.all(-1));
    }

    private static void telling() {
        OwnerLedger x = ledger();
        x.month(8);
        posted(x, 5, 0, 1, 40);
        CHECK.due("21: state", 1, () -> x.told(1, 0));
        CHECK.due("21: month", 5, () -> x.told(1, 1));
        CHECK.due("21: rows", 2, () -> x.told(1, 2));
        CHECK.due("21: not reversed", 0, () -> x.told(1, 3));
        CHECK.due("21: not a reversal", 0, () -> x.told(1, 4));
        x.batch(8);
        x.reverse(1);
        CHECK.due("21: reversed by", 3, () -> x.told(1, 3));
        CHECK.due("21: reverses", 1, () -> x.told(3, 4));
        CHECK.due("21: a reversal is not reversed", 0, () -> x.told(3, 3));
        CHECK.due("21: a reversed one is no reversal", 0, () -> x.told(1, 4));
        CHECK.refused("21: what 5", Check.ARGUMENT, () -> x.told(1, 5));
        CHECK.refused("21: what -1", Check.ARGUMENT, () -> x.told(1, -1));
        CHECK.refused("21: no batch 4", Check.NO_SUCH, () -> x.told(4, 0));
        CHECK.refused("21: no batch 0", Check.NO_SUCH, () -> x.told(0, 0));
        CHECK.refused("21: the batch before the what", Check.NO_SUCH, () -> x.told(4, 5));
    }
}
