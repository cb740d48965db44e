/**
 * "REFUSALS, the first that holds": for each call, every pair of reasons that can hold at once. What
 * there is not comes first, then a number outside its range, then the state, then the room.
 */
public final class RefusalOrderTest {
    private static final Edges EDGES = new Edges();
    private static final long TOO_MANY = Ledgers.MOST + 1;

    public static void main(String[] args) {
        account();
        close();
        batch();
        rowOfNone();
        row();
        breaks();
        post();
        reverse();
        balance();
        invoice();
        pay();
        settle();
        looks();
        EDGES.end();
    }

    private static void order(String call) {
        EDGES.sentence("Terms", "REFUSALS, the first that holds: " + call);
    }

    private static void account() {
        order("account");
        Ledgers.Maker full = Ledgers::fullOfAccounts;
        EDGES.refuses("owner, currency", Check.NO_SUCH, Ledgers::rich, x -> x.account(3, 3));
        EDGES.refuses("owner, currency, room", Check.NO_SUCH, full, x -> x.account(-1, -1));
        EDGES.refuses("owner, room", Check.NO_SUCH, full, x -> x.account(3, 0));
        EDGES.refuses("currency, room", Check.ARGUMENT, full, x -> x.account(0, 3));
        EDGES.refuses("room", Check.ROOM, full, x -> x.account(0, 2));
    }

    private static void close() {
        order("close");
        EDGES.refuses("below 0, fewer", Check.ARGUMENT, Ledgers::rich, x -> x.close(-1));
        EDGES.refuses("the least int, fewer", Check.ARGUMENT, Ledgers::rich, x -> x.close(Integer.MIN_VALUE));
        EDGES.refuses("fewer", Check.STATE, Ledgers::rich, x -> x.close(0));
    }

    private static void batch() {
        order("batch");
        Ledgers.Maker full = Ledgers::fullOfBatches;
        EDGES.refuses("below 0, before those open", Check.ARGUMENT, Ledgers::rich, x -> x.batch(-1));
        EDGES.refuses("below 0, before those open, room", Check.ARGUMENT, full, x -> x.batch(-1));
        EDGES.refuses("to come, room", Check.ARGUMENT, full, x -> x.batch(Ledgers.MONTH + 1));
        EDGES.refuses("closed, room", Check.STATE, full, x -> x.batch(Ledgers.CLOSED - 1));
        EDGES.refuses("room", Check.ROOM, full, x -> x.batch(Ledgers.CLOSED));
    }

    private static void rowOfNone() {
        order("row, of what there is not");
        Ledgers.Maker full = Ledgers::fullOfRows;
        int none = Ledgers.BATCHES + 1;
        EDGES.refuses("batch, account", Check.NO_SUCH, Ledgers::rich, x -> x.row(none, Ledgers.ACCOUNTS, 1));
        EDGES.refuses("batch, cents", Check.NO_SUCH, Ledgers::rich, x -> x.row(none, 0, 0));
        EDGES.refuses("batch, too many cents", Check.NO_SUCH, Ledgers::rich, x -> x.row(0, 0, TOO_MANY));
        EDGES.refuses("account, cents", Check.NO_SUCH, Ledgers::rich, x -> x.row(Ledgers.OPEN, Ledgers.ACCOUNTS, 0));
        EDGES.refuses("account, POSTED", Check.NO_SUCH, Ledgers::rich, x -> x.row(Ledgers.POSTED, Ledgers.ACCOUNTS, 1));
        EDGES.refuses("account, FAILED", Check.NO_SUCH, Ledgers::rich, x -> x.row(Ledgers.FAILED, -1, 1));
        EDGES.refuses("account, room", Check.NO_SUCH, full, x -> x.row(Ledgers.OPEN, Ledgers.ACCOUNTS, 1));
        EDGES.refuses("account, cents, room", Check.NO_SUCH, full, x -> x.row(Ledgers.OPEN, -1, TOO_MANY));
    }

    private static void row() {
        order("row");
        Ledgers.Maker full = Ledgers::fullOfRows;
        Ledgers.Maker fullPosted = Ledgers.after(full, x -> x.post(Ledgers.OPEN));
        EDGES.refuses("0 cents, POSTED", Check.ARGUMENT, Ledgers::rich, x -> x.row(Ledgers.POSTED, 0, 0));
        EDGES.refuses("too many, FAILED", Check.ARGUMENT, Ledgers::rich, x -> x.row(Ledgers.FAILED, 0, TOO_MANY));
        EDGES.refuses("too few, room", Check.ARGUMENT, full, x -> x.row(Ledgers.OPEN, 0, -TOO_MANY));
        EDGES.refuses("0 cents, room", Check.ARGUMENT, full, x -> x.row(Ledgers.OPEN, 0, 0));
        EDGES.refuses("all but the account", Check.ARGUMENT, fullPosted, x -> x.row(Ledgers.OPEN, 0, 0));
        EDGES.refuses("POSTED, room", Check.STATE, fullPosted, x -> x.row(Ledgers.OPEN, 0, 1));
        Ledgers.Maker fullFailed = Ledgers.after(full, x -> {
            x.breaks(Ledgers.OPEN, 7, true);
            x.post(Ledgers.OPEN);
        });
        EDGES.refuses("FAILED, room", Check.STATE, fullFailed, x -> x.row(Ledgers.OPEN, 0, 1));
        EDGES.refuses("room", Check.ROOM, full, x -> x.row(Ledgers.OPEN, 0, 1));
    }

    private static long breaks(OwnerLedger x, int batch, int row) {
        x.breaks(batch, row, true);
        return 1;
    }

    private static void breaks() {
        order("breaks");
        EDGES.refuses("batch, row", Check.NO_SUCH, Ledgers::rich, x -> breaks(x, Ledgers.BATCHES + 1, -1));
        EDGES.refuses("row, POSTED", Check.NO_SUCH, Ledgers::rich, x -> breaks(x, Ledgers.POSTED, 2));
        EDGES.refuses("row, FAILED", Check.NO_SUCH, Ledgers::rich, x -> breaks(x, Ledgers.FAILED, 1));
        EDGES.refuses("row, a reversal", Check.NO_SUCH, Ledgers::rich, x -> breaks(x, Ledgers.REVERSAL, 2));
        EDGES.refuses("row below 0, POSTED", Check.NO_SUCH, Ledgers::rich, x -> breaks(x, Ledgers.POSTED, -1));
        EDGES.refuses("POSTED", Check.STATE, Ledgers::rich, x -> breaks(x, Ledgers.POSTED, 1));
    }

    private static void post() {
        order("post");
        Ledgers.Maker closed = Ledgers.after(Ledgers::rich, x -> {
            x.month(11);
            x.close(11);
        });
        EDGES.refuses("closed, no rows", Check.STATE, closed, x -> x.post(Ledgers.WITHOUT_ROWS));
        EDGES.refuses("closed, a row that breaks", Check.STATE, closed, x -> x.post(Ledgers.BREAKING));
        EDGES.refuses("closed, POSTED", Check.STATE, closed, x -> x.post(Ledgers.POSTED));
    }

    private static void reverse() {
        order("reverse");
        Ledgers.Maker full = Ledgers::fullOfBatches;
        EDGES.refuses("batch, room", Check.NO_SUCH, full, x -> x.reverse(31));
        EDGES.refuses("batch 0, room", Check.NO_SUCH, full, x -> x.reverse(0));
        EDGES.refuses("OPEN, room", Check.STATE, full, x -> x.reverse(Ledgers.OPEN));
        EDGES.refuses("FAILED, room", Check.STATE, full, x -> x.reverse(Ledgers.FAILED));
        EDGES.refuses("was reversed, room", Check.STATE, full, x -> x.reverse(Ledgers.REVERSED));
        EDGES.refuses("a reversal, room", Check.STATE, full, x -> x.reverse(Ledgers.REVERSAL));
        EDGES.refuses("room", Check.ROOM, full, x -> x.reverse(Ledgers.POSTED));
    }

    private static void balance() {
        order("balance");
        EDGES.refuses("account, month", Check.NO_SUCH, Ledgers::rich, x -> x.balance(Ledgers.ACCOUNTS, 121));
        EDGES.refuses("account below 0, month", Check.NO_SUCH, Ledgers::rich, x -> x.balance(-1, -1));
        EDGES.refuses("month", Check.ARGUMENT, Ledgers::rich, x -> x.balance(0, 121));
    }

    private static void invoice() {
        order("invoice");
        Ledgers.Maker full = Ledgers::fullOfInvoices;
        int none = Ledgers.OWNERS;
        EDGES.refuses("owner, cents", Check.NO_SUCH, Ledgers::rich, x -> x.invoice(none, 0, 0));
        EDGES.refuses("owner, due month", Check.NO_SUCH, Ledgers::rich, x -> x.invoice(none, 1, 121));
        EDGES.refuses("owner, room", Check.NO_SUCH, full, x -> x.invoice(none, 1, 0));
        EDGES.refuses("owner, cents, due month, room", Check.NO_SUCH, full, x -> x.invoice(-1, 0, -1));
        EDGES.refuses("cents, held", Check.ARGUMENT, Ledgers::rich, x -> x.invoice(Ledgers.HELD, 0, 0));
        EDGES.refuses("too many, held", Check.ARGUMENT, Ledgers::rich, x -> x.invoice(Ledgers.HELD, TOO_MANY, 0));
        EDGES.refuses("due month, held", Check.ARGUMENT, Ledgers::rich, x -> x.invoice(Ledgers.HELD, 1, 121));
        EDGES.refuses("cents, room", Check.ARGUMENT, full, x -> x.invoice(Ledgers.FREE, 0, 0));
        EDGES.refuses("due month, room", Check.ARGUMENT, full, x -> x.invoice(Ledgers.FREE, 1, -1));
        EDGES.refuses("cents, held, room", Check.ARGUMENT, full, x -> x.invoice(Ledgers.HELD, 0, 0));
        EDGES.refuses("held, room", Check.STATE, full, x -> x.invoice(Ledgers.HELD, 1, 0));
        EDGES.refuses("room", Check.ROOM, full, x -> x.invoice(Ledgers.FREE, 1, 0));
    }

    private static void pay() {
        order("pay");
        EDGES.refuses("owner, cents", Check.NO_SUCH, Ledgers::rich, x -> x.pay(Ledgers.OWNERS, 0));
        EDGES.refuses("owner, too many", Check.NO_SUCH, Ledgers::rich, x -> x.pay(-1, TOO_MANY));
    }

    private static void settle() {
        order("settle");
        EDGES.refuses("invoice, cents", Check.NO_SUCH, Ledgers::rich, x -> x.settle(Ledgers.INVOICES + 1, 0));
        EDGES.refuses("invoice, too many", Check.NO_SUCH, Ledgers::rich, x -> x.settle(0, TOO_MANY));
    }

    private static void looks() {
        order("interest, told and known");
        EDGES.refuses("invoice, side", Check.NO_SUCH, Ledgers::rich, x -> x.interest(Ledgers.INVOICES + 1, 2));
        EDGES.refuses("invoice 0, side", Check.NO_SUCH, Ledgers::rich, x -> x.interest(0, -1));
        EDGES.refuses("batch, what", Check.NO_SUCH, Ledgers::rich, x -> x.told(Ledgers.BATCHES + 1, 5));
        EDGES.refuses("batch 0, what", Check.NO_SUCH, Ledgers::rich, x -> x.told(0, -1));
        EDGES.refuses("invoice, what", Check.NO_SUCH, Ledgers::rich, x -> x.known(Ledgers.INVOICES + 1, 6));
        EDGES.refuses("invoice 0, what", Check.NO_SUCH, Ledgers::rich, x -> x.known(0, -1));
    }
}
