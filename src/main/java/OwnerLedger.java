import java.util.NoSuchElementException;

/**
 * A ledger of owners in double rows. Balances are not kept but summed from the rows of posted
 * batches, so a batch that breaks leaves nothing behind that would have to be undone.
 */
public final class OwnerLedger {
    private static final int LAST_MONTH = 120;
    private static final int CURRENCIES = 3;
    private static final long MOST_CENTS = 1000000000L;
    private static final int MOST_PERCENTS = 100;
    private static final int LAST_STAGE = 3;

    private static final int MOST_OWNERS = 6;
    private static final int MOST_ACCOUNTS = 20;
    private static final int MOST_BATCHES = 30;
    private static final int MOST_ROWS = 8;
    private static final int MOST_INVOICES = 20;

    private static final int OPEN = 0;
    private static final int POSTED = 1;
    private static final int FAILED = 2;

    private static final int NONE = -1;
    private static final int SUMS_NOT_ZERO = -9;

    /** Percents a year as a part of one month: 100 times 12. */
    private static final long INTEREST_DIVISOR = 1200L;
    /** Euclid takes at most five steps for each of the four digits of 1200, and one before them. */
    private static final int EUCLID_STEPS = 21;

    private final Owner[] owners;
    /** Of an account only the currency is kept: no call asks for its owner again. */
    private final int[] currencies;
    private final Batch[] batches;
    private final Invoice[] invoices;
    private int ownerCount;
    private int accountCount;
    private int batchCount;
    private int invoiceCount;
    private int currentMonth;
    private int closedMonths;
    private int yearlyPercents;

    public OwnerLedger() {
        owners = new Owner[MOST_OWNERS];
        currencies = new int[MOST_ACCOUNTS];
        batches = new Batch[MOST_BATCHES];
        invoices = new Invoice[MOST_INVOICES];
    }

    public int owner() throws UnsupportedOperationException {
        requireRoom(ownerCount, owners.length);
        int number = ownerCount;
        owners[number] = new Owner();
        ownerCount++;
        return number;
    }

    public int account(int owner, int currency)
            throws NoSuchElementException, IllegalArgumentException, UnsupportedOperationException {
        findOwner(owner);
        requireRange(currency, 0, CURRENCIES - 1);
        requireRoom(accountCount, currencies.length);
        int number = accountCount;
        currencies[number] = currency;
        accountCount++;
        return number;
    }

    public void month(int month) throws IllegalArgumentException {
        requireRange(month, currentMonth, LAST_MONTH);
        currentMonth = month;
    }

    public int close(int month) throws IllegalArgumentException, IllegalStateException {
        requireRange(month, 0, currentMonth);
        if (month < closedMonths) {
            throw new IllegalStateException("closed months do not open again");
        }
        int more = month - closedMonths;
        closedMonths = month;
        return more;
    }

    public int batch(int month)
            throws IllegalArgumentException, IllegalStateException, UnsupportedOperationException {
        requireRange(month, 0, currentMonth);
        if (month < closedMonths) {
            throw new IllegalStateException("the month is closed");
        }
        return keepBatch(new Batch(month));
    }

    public int row(int batch, int account, long cents)
            throws NoSuchElementException, IllegalArgumentException, IllegalStateException,
            UnsupportedOperationException {
        Batch found = findBatch(batch);
        int currency = currencyOf(account);
        requireRange(cents, -MOST_CENTS, MOST_CENTS);
        if (cents == 0) {
            throw new IllegalArgumentException("a row of no cents");
        }
        requireOpen(found);
        found.addRow(new Row(account, currency, cents));
        return found.rowCount;
    }

    public void breaks(int batch, int i, boolean on)
            throws NoSuchElementException, IllegalStateException {
        Batch found = findBatch(batch);
        Row row = findRow(found, i);
        requireOpen(found);
        row.breaking = on;
    }

    public int post(int batch) throws NoSuchElementException, IllegalStateException {
        Batch found = findBatch(batch);
        requireOpen(found);
        if (found.month < closedMonths) {
            throw new IllegalStateException("the month of the batch is closed by now");
        }
        if (found.rowCount == 0) {
            throw new IllegalStateException("the batch has no rows");
        }
        int broken = found.firstBreaking();
        boolean whole = broken == NONE && found.sumsToZero();
        found.state = whole ? POSTED : FAILED;
        if (whole) {
            return 1;
        }
        return broken == NONE ? SUMS_NOT_ZERO : -1 - broken;
    }

    public int reverse(int batch)
            throws NoSuchElementException, IllegalStateException, UnsupportedOperationException {
        Batch found = findBatch(batch);
        if (found.state != POSTED) {
            throw new IllegalStateException("the batch is not posted");
        }
        if (found.reversedBy != 0) {
            throw new IllegalStateException("the batch was reversed");
        }
        if (found.reversalOf != 0) {
            throw new IllegalStateException("the batch is a reversal");
        }
        Batch reversal = new Batch(currentMonth);
        reversal.copyOpposites(found);
        reversal.state = POSTED;
        reversal.reversalOf = batch;
        found.reversedBy = keepBatch(reversal);
        return found.reversedBy;
    }

    public long balance(int account, int month)
            throws NoSuchElementException, IllegalArgumentException {
        currencyOf(account);
        requireRange(month, 0, LAST_MONTH);
        long sum = 0;
        for (Batch batch : batches) {
            if (batch != null && batch.state == POSTED && batch.month <= month) {
                sum += batch.sumOfAccount(account);
            }
        }
        return sum;
    }

    public long all(int currency) throws IllegalArgumentException {
        requireRange(currency, 0, CURRENCIES - 1);
        long sum = 0;
        for (Batch batch : batches) {
            if (batch != null && batch.state == POSTED) {
                sum += batch.sumOfCurrency(currency);
            }
        }
        return sum;
    }

    public int invoice(int owner, long cents, int dueMonth)
            throws NoSuchElementException, IllegalArgumentException, IllegalStateException,
            UnsupportedOperationException {
        Owner payer = findOwner(owner);
        requireRange(cents, 1, MOST_CENTS);
        requireRange(dueMonth, 0, LAST_MONTH);
        if (payer.held) {
            throw new IllegalStateException("the owner is held");
        }
        requireRoom(invoiceCount, invoices.length);
        Invoice made = new Invoice(owner, cents, dueMonth);
        payer.credit = made.takeFrom(payer.credit);
        invoices[invoiceCount] = made;
        invoiceCount++;
        return invoiceCount;
    }

    public int pay(int owner, long cents) throws NoSuchElementException, IllegalArgumentException {
        Owner payer = findOwner(owner);
        requireRange(cents, 1, MOST_CENTS);
        long rest = cents;
        int paidUp = 0;
        // Each turn pays an invoice up or uses up the rest, so a turn for each invoice is enough.
        for (int turn = 0; turn < MOST_INVOICES && rest > 0; turn++) {
            Invoice next = firstToPay(owner);
            if (next == null) {
                break;
            }
            rest = next.takeFrom(rest);
            if (next.open == 0) {
                paidUp++;
            }
        }
        payer.credit += rest;
        return paidUp;
    }

    public long settle(int invoice, long cents)
            throws NoSuchElementException, IllegalArgumentException {
        Invoice found = findInvoice(invoice);
        requireRange(cents, 1, MOST_CENTS);
        Owner payer = findOwner(found.owner);
        payer.credit += found.takeFrom(cents);
        return found.open;
    }

    public long dispute(int invoice, boolean on)
            throws NoSuchElementException, IllegalStateException {
        Invoice found = findInvoice(invoice);
        if (found.disputed == on) {
            throw new IllegalStateException("the invoice is so already");
        }
        found.disputed = on;
        return found.open;
    }

    public int dun(int invoice) throws NoSuchElementException, IllegalStateException {
        Invoice found = findInvoice(invoice);
        if (!found.isOverdue(currentMonth)) {
            throw new IllegalStateException("the invoice is not overdue");
        }
        if (found.stage >= LAST_STAGE) {
            throw new IllegalStateException("the invoice is in its last stage");
        }
        found.stage++;
        if (found.stage == LAST_STAGE) {
            findOwner(found.owner).held = true;
        }
        return found.stage;
    }

    public void rate(int percents) throws IllegalArgumentException {
        requireRange(percents, 0, MOST_PERCENTS);
        yearlyPercents = percents;
    }

    public long interest(int invoice, int side)
            throws NoSuchElementException, IllegalArgumentException {
        Invoice found = findInvoice(invoice);
        requireRange(side, 0, 1);
        long upper = found.open * found.monthsOverdue(currentMonth) * yearlyPercents;
        long common = commonDivisor(upper, INTEREST_DIVISOR);
        return side == 0 ? upper / common : INTEREST_DIVISOR / common;
    }

    public int hold(int owner, boolean on) throws NoSuchElementException, IllegalStateException {
        Owner found = findOwner(owner);
        if (found.held == on) {
            throw new IllegalStateException("the owner is so already");
        }
        found.held = on;
        return overdueInvoicesOf(owner);
    }

    public int told(int batch, int what) throws NoSuchElementException, IllegalArgumentException {
        Batch found = findBatch(batch);
        requireRange(what, 0, 4);
        switch (what) {
            case 0:
                return found.state;
            case 1:
                return found.month;
            case 2:
                return found.rowCount;
            case 3:
                return found.reversedBy;
            default:
                return found.reversalOf;
        }
    }

    public long known(int invoice, int what)
            throws NoSuchElementException, IllegalArgumentException {
        Invoice found = findInvoice(invoice);
        requireRange(what, 0, 5);
        switch (what) {
            case 0:
                return found.open;
            case 1:
                return found.stage;
            case 2:
                return found.disputed ? 1 : 0;
            case 3:
                return found.isOverdue(currentMonth) ? 1 : 0;
            case 4:
                return found.owner;
            default:
                return found.dueMonth;
        }
    }

    public long credit(int owner) throws NoSuchElementException {
        return findOwner(owner).credit;
    }

    public int count(int what) {
        switch (what) {
            case 0:
                return ownerCount;
            case 1:
                return accountCount;
            case 2:
                return batchCount;
            case 3:
                return postedBatches();
            case 4:
                return invoiceCount;
            case 5:
                return unpaidInvoices();
            case 6:
                return currentMonth;
            case 7:
                return closedMonths;
            case 8:
                return heldOwners();
            default:
                return -1;
        }
    }

    private static void requireRange(long number, long least, long most) {
        if (number < least || number > most) {
            throw new IllegalArgumentException("a number is outside its range");
        }
    }

    private static void requireRoom(int used, int room) {
        if (used < 0 || used >= room) {
            throw new UnsupportedOperationException("there is no room for more");
        }
    }

    private static void requireOpen(Batch batch) {
        if (batch.state != OPEN) {
            throw new IllegalStateException("the batch is not open");
        }
    }

    private Owner findOwner(int number) {
        Owner found = number < 0 || number >= owners.length ? null : owners[number];
        if (found == null) {
            throw new NoSuchElementException("there is no such owner");
        }
        return found;
    }

    private int currencyOf(int account) {
        if (account < 0 || account >= accountCount || account >= currencies.length) {
            throw new NoSuchElementException("there is no such account");
        }
        return currencies[account];
    }

    private Batch findBatch(int number) {
        Batch found = number < 1 || number > batches.length ? null : batches[number - 1];
        if (found == null) {
            throw new NoSuchElementException("there is no such batch");
        }
        return found;
    }

    private static Row findRow(Batch batch, int i) {
        Row found = i < 0 || i >= batch.rows.length ? null : batch.rows[i];
        if (found == null) {
            throw new NoSuchElementException("there is no such row");
        }
        return found;
    }

    private Invoice findInvoice(int number) {
        Invoice found = number < 1 || number > invoices.length ? null : invoices[number - 1];
        if (found == null) {
            throw new NoSuchElementException("there is no such invoice");
        }
        return found;
    }

    /** Keeps a batch, if there is room: its number. */
    private int keepBatch(Batch made) {
        requireRoom(batchCount, batches.length);
        batches[batchCount] = made;
        batchCount++;
        return batchCount;
    }

    /** The invoice that an owner's payment meets next, or null. */
    private Invoice firstToPay(int owner) {
        Invoice first = null;
        for (Invoice invoice : invoices) {
            if (invoice != null && invoice.owner == owner && invoice.open > 0 && !invoice.disputed
                    && (first == null || invoice.dueMonth < first.dueMonth)) {
                first = invoice;
            }
        }
        return first;
    }

    private int overdueInvoicesOf(int owner) {
        int found = 0;
        for (Invoice invoice : invoices) {
            if (invoice != null && invoice.owner == owner && invoice.isOverdue(currentMonth)) {
                found++;
            }
        }
        return found;
    }

    private int postedBatches() {
        int found = 0;
        for (Batch batch : batches) {
            if (batch != null && batch.state == POSTED) {
                found++;
            }
        }
        return found;
    }

    private int unpaidInvoices() {
        int found = 0;
        for (Invoice invoice : invoices) {
            if (invoice != null && invoice.open > 0) {
                found++;
            }
        }
        return found;
    }

    private int heldOwners() {
        int found = 0;
        for (Owner owner : owners) {
            if (owner != null && owner.held) {
                found++;
            }
        }
        return found;
    }

    /** The greatest divisor of both; never less than 1, so that it is safe to divide by. */
    private static long commonDivisor(long one, long other) {
        long divisor = one;
        long rest = other;
        for (int step = 0; step < EUCLID_STEPS && rest != 0; step++) {
            long next = divisor % rest;
            divisor = rest;
            rest = next;
        }
        return Math.max(divisor, 1L);
    }

    private static final class Owner {
        long credit;
        boolean held;
    }

    private static final class Row {
        final int account;
        final int currency;
        final long cents;
        boolean breaking;

        Row(int account, int currency, long cents) {
            this.account = account;
            this.currency = currency;
            this.cents = cents;
        }
    }

    private static final class Batch {
        final int month;
        final Row[] rows;
        int rowCount;
        int state;
        int reversedBy;
        int reversalOf;

        Batch(int month) {
            this.month = month;
            this.rows = new Row[MOST_ROWS];
            this.state = OPEN;
        }

        void addRow(Row made) {
            requireRoom(rowCount, rows.length);
            rows[rowCount] = made;
            rowCount++;
        }

        /** Takes over the rows of another batch, each with the other sign. */
        void copyOpposites(Batch other) {
            for (int i = 0; i < rows.length && i < other.rows.length; i++) {
                Row row = other.rows[i];
                rows[i] = row == null ? null : new Row(row.account, row.currency, -row.cents);
            }
            rowCount = other.rowCount;
        }

        int firstBreaking() {
            for (int i = 0; i < rows.length; i++) {
                Row row = rows[i];
                if (row != null && row.breaking) {
                    return i;
                }
            }
            return NONE;
        }

        boolean sumsToZero() {
            for (int currency = 0; currency < CURRENCIES; currency++) {
                if (sumOfCurrency(currency) != 0) {
                    return false;
                }
            }
            return true;
        }

        long sumOfCurrency(int currency) {
            long sum = 0;
            for (Row row : rows) {
                if (row != null && row.currency == currency) {
                    sum += row.cents;
                }
            }
            return sum;
        }

        long sumOfAccount(int account) {
            long sum = 0;
            for (Row row : rows) {
                if (row != null && row.account == account) {
                    sum += row.cents;
                }
            }
            return sum;
        }
    }

    private static final class Invoice {
        final int owner;
        final int dueMonth;
        long open;
        int stage;
        boolean disputed;

        Invoice(int owner, long cents, int dueMonth) {
            this.owner = owner;
            this.open = cents;
            this.dueMonth = dueMonth;
        }

        /** Pays the invoice from some cents, as far as they go: what is left of them. */
        long takeFrom(long cents) {
            long taken = Math.min(open, cents);
            open -= taken;
            return cents - taken;
        }

        boolean isOverdue(int month) {
            return open > 0 && !disputed && month > dueMonth;
        }

        int monthsOverdue(int month) {
            return isOverdue(month) ? month - dueMonth : 0;
        }
    }
}
