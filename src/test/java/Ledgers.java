/** Ledgers with something of everything, so that a refused call has much that it could change. */
final class Ledgers {
    static final long MOST = 1000000000L;

    /** Makes a new object, the same one each time. */
    interface Maker {
        OwnerLedger make();
    }

    interface Steps {
        void on(OwnerLedger x);
    }

    /** The owners of a rich ledger. Owner n has the accounts 2n and 2n + 1, of currency n. */
    static final int FREE = 0;
    static final int CREDITED = 1;
    static final int HELD = 2;
    static final int OWNERS = 3;
    static final int ACCOUNTS = 6;
    static final long CREDIT = 60;

    /** The month that is in a rich ledger, and how many are closed. */
    static final int MONTH = 10;
    static final int CLOSED = 4;

    /** The batches of a rich ledger; each but two has two rows of one owner's accounts. */
    static final int REVERSED = 1;
    static final int OF_CLOSED_MONTH = 2;
    static final int POSTED = 3;
    static final int FAILED = 4;
    static final int OPEN = 5;
    static final int BREAKING = 6;
    static final int WITHOUT_ROWS = 7;
    static final int REVERSAL = 8;
    static final int BATCHES = 8;

    /** The invoices of a rich ledger. */
    static final int OVERDUE = 1;
    static final int DUE_NOW = 2;
    static final int DISPUTED = 3;
    static final int PAID = 4;
    static final int LAST_STAGE = 5;
    static final int INVOICES = 5;

    private Ledgers() {
    }

    static OwnerLedger rich() {
        OwnerLedger x = new OwnerLedger();
        for (int owner = 0; owner < OWNERS; owner++) {
            x.owner();
            x.account(owner, owner);
            x.account(owner, owner);
        }
        x.month(MONTH);
        addBatches(x);
        addInvoices(x);
        return x;
    }

    private static void addBatches(OwnerLedger x) {
        x.post(pair(x, CLOSED, 0, 40));
        pair(x, CLOSED - 1, 2, 50);
        x.post(pair(x, 6, 2, 70));
        int failed = x.batch(MONTH);
        x.row(failed, 4, 5);
        x.post(failed);
        pair(x, MONTH, 4, 90);
        x.breaks(pair(x, CLOSED, 0, 110), 1, true);
        x.batch(MONTH);
        x.close(CLOSED);
        x.reverse(REVERSED);
    }

    private static void addInvoices(OwnerLedger x) {
        x.rate(7);
        x.invoice(FREE, 1000, 5);
        x.settle(OVERDUE, 1);
        x.invoice(FREE, 500, MONTH);
        x.invoice(FREE, 300, 2);
        x.dispute(DISPUTED, true);
        x.invoice(CREDITED, 200, 0);
        x.settle(PAID, 200 + CREDIT);
        x.invoice(HELD, 100, 7);
        for (int stage = 1; stage <= 3; stage++) {
            x.dun(LAST_STAGE);
        }
    }

    /** An open batch that moves cents to an account from the next one: its number. */
    static int pair(OwnerLedger x, int month, int account, long cents) {
        int batch = x.batch(month);
        x.row(batch, account, cents);
        x.row(batch, account + 1, -cents);
        return batch;
    }

    static Maker after(Maker maker, Steps steps) {
        return () -> {
            OwnerLedger x = maker.make();
            steps.on(x);
            return x;
        };
    }

    static OwnerLedger fullOfOwners() {
        OwnerLedger x = rich();
        for (int owner = OWNERS; owner < 6; owner++) {
            x.owner();
        }
        return x;
    }

    static OwnerLedger fullOfAccounts() {
        OwnerLedger x = rich();
        for (int account = ACCOUNTS; account < 20; account++) {
            x.account(FREE, 0);
        }
        return x;
    }

    static OwnerLedger fullOfBatches() {
        OwnerLedger x = rich();
        for (int batch = BATCHES + 1; batch <= 30; batch++) {
            x.batch(MONTH);
        }
        return x;
    }

    static OwnerLedger fullOfInvoices() {
        OwnerLedger x = rich();
        for (int invoice = INVOICES + 1; invoice <= 20; invoice++) {
            x.invoice(FREE, 10, MONTH);
        }
        return x;
    }

    /** A rich ledger whose open batch has eight rows. */
    static OwnerLedger fullOfRows() {
        OwnerLedger x = rich();
        for (int row = 3; row <= 8; row++) {
            x.row(OPEN, 0, row % 2 == 0 ? 1 : -1);
        }
        return x;
    }
}
