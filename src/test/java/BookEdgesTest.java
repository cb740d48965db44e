/** The sentences about edges in promises 1 to 6, and in the terms that they use. */
public final class BookEdgesTest {
    private static final Edges EDGES = new Edges();

    public static void main(String[] args) {
        nothingThere();
        monthAtFirst();
        noneClosedAtFirst();
        rateAtFirst();
        ownersAsTheyCome();
        mostOwners();
        accountsAsTheyCome();
        mostAccounts();
        accountOwners();
        accountCurrencies();
        monthsInRange();
        monthGoesOn();
        closeInRange();
        closeNone();
        closeMore();
        closeFewer();
        batchesAsTheyCome();
        batchMonths();
        batchOfClosedMonth();
        mostBatches();
        EDGES.end();
    }

    private static void nothingThere() {
        EDGES.sentence("promise 1", "Nothing there");
        for (int what = 0; what <= 8; what++) {
            int asked = what;
            EDGES.answers("count(" + what + ")", 0, OwnerLedger::new, x -> x.count(asked));
        }
        for (int currency = 0; currency <= 2; currency++) {
            int asked = currency;
            EDGES.answers("all(" + currency + ")", 0, OwnerLedger::new, x -> x.all(asked));
        }
        EDGES.refuses("account", Check.NO_SUCH, OwnerLedger::new, x -> x.account(0, 0));
        EDGES.refuses("row", Check.NO_SUCH, OwnerLedger::new, x -> x.row(1, 0, 1));
        EDGES.refuses("breaks", Check.NO_SUCH, OwnerLedger::new, x -> {
            x.breaks(1, 0, true);
            return 0;
        });
        EDGES.refuses("post", Check.NO_SUCH, OwnerLedger::new, x -> x.post(1));
        EDGES.refuses("reverse", Check.NO_SUCH, OwnerLedger::new, x -> x.reverse(1));
        EDGES.refuses("balance", Check.NO_SUCH, OwnerLedger::new, x -> x.balance(0, 0));
        EDGES.refuses("invoice", Check.NO_SUCH, OwnerLedger::new, x -> x.invoice(0, 1, 0));
        EDGES.refuses("pay", Check.NO_SUCH, OwnerLedger::new, x -> x.pay(0, 1));
        EDGES.refuses("settle", Check.NO_SUCH, OwnerLedger::new, x -> x.settle(1, 1));
        EDGES.refuses("dispute", Check.NO_SUCH, OwnerLedger::new, x -> x.dispute(1, true));
        EDGES.refuses("dun", Check.NO_SUCH, OwnerLedger::new, x -> x.dun(1));
        EDGES.refuses("interest", Check.NO_SUCH, OwnerLedger::new, x -> x.interest(1, 0));
        EDGES.refuses("hold", Check.NO_SUCH, OwnerLedger::new, x -> x.hold(0, true));
        EDGES.refuses("told", Check.NO_SUCH, OwnerLedger::new, x -> x.told(1, 0));
        EDGES.refuses("known", Check.NO_SUCH, OwnerLedger::new, x -> x.known(1, 0));
        EDGES.refuses("credit", Check.NO_SUCH, OwnerLedger::new, x -> x.credit(0));
    }

    private static void monthAtFirst() {
        EDGES.sentence("promise 1", "month 0");
        EDGES.answers("the month that is", 0, OwnerLedger::new, x -> x.count(6));
        EDGES.answers("a batch for it", 1, OwnerLedger::new, x -> x.batch(0));
        EDGES.refuses("a batch for the next", Check.ARGUMENT, OwnerLedger::new, x -> x.batch(1));
    }

    private static void noneClosedAtFirst() {
        EDGES.sentence("Terms", "months before some one may be CLOSED (none at first)");
        EDGES.answers("count", 0, OwnerLedger::new, x -> x.count(7));
        EDGES.answers("month 0 is open to batches later too", 1, OwnerLedger::new, x -> {
            x.month(120);
            return x.batch(0);
        });
        EDGES.answers("the first is closed", 1, OwnerLedger::new, x -> {
            x.month(1);
            return x.close(1);
        });
    }

    private static void rateAtFirst() {
        EDGES.sentence("Terms", "the RATE (percents a year, 0 .. 100; 0 at first)");
        Ledgers.Maker overdue = Ledgers.after(OwnerLedger::new, x -> {
            x.owner();
            x.invoice(0, 1200, 0);
            x.month(1);
        });
        EDGES.answers("an upper number", 0, overdue, x -> x.interest(1, 0));
        EDGES.answers("a lower number", 1, overdue, x -> x.interest(1, 1));
    }

    private static void ownersAsTheyCome() {
        EDGES.sentence("promise 2", "An owner: their number");
        EDGES.answers("the first", 0, OwnerLedger::new, x -> x.owner());
        EDGES.answers("the next", Ledgers.OWNERS, Ledgers::rich, x -> x.owner());
        EDGES.answers("it is counted", Ledgers.OWNERS + 1, Ledgers::rich, x -> {
            x.owner();
            return x.count(0);
        });
    }

    private static void mostOwners() {
        EDGES.sentence("Terms", "OWNERS 0, 1, .. (at most 6, as they come)");
        Ledgers.Maker five = Ledgers.after(Ledgers::rich, x -> {
            x.owner();
            x.owner();
        });
        EDGES.answers("the last place", 5, five, x -> x.owner());
        EDGES.refuses("one more", Check.ROOM, Ledgers::fullOfOwners, x -> x.owner());
        EDGES.refuses("one more, again", Check.ROOM, Ledgers::fullOfOwners, x -> {
            Check.answerOf(x::owner);
            return x.owner();
        });
        EDGES.answers("the last one has no credit at first", 0, Ledgers::fullOfOwners, x -> x.credit(5));
        EDGES.answers("the last one is not held at first", 0, Ledgers::fullOfOwners, x -> x.hold(5, true));
    }

    private static void accountsAsTheyCome() {
        EDGES.sentence("promise 3", "An account: its number");
        EDGES.answers("the first", 0, OwnerLedger::new, x -> {
            x.owner();
            return x.account(0, 0);
        });
        EDGES.answers("the next", Ledgers.ACCOUNTS, Ledgers::rich, x -> x.account(0, 0));
        EDGES.answers("of a held owner too", Ledgers.ACCOUNTS, Ledgers::rich, x -> x.account(Ledgers.HELD, 0));
        EDGES.answers("it is empty", 0, Ledgers::rich, x -> x.balance(x.account(0, 0), 120));
    }

    private static void mostAccounts() {
        EDGES.sentence("Terms", "ACCOUNTS 0, 1, .. (at most 20)");
        Ledgers.Maker nineteen = Ledgers.after(Ledgers::rich, x -> {
            for (int account = Ledgers.ACCOUNTS; account < 19; account++) {
                x.account(1, 1);
            }
        });
        EDGES.answers("the last place", 19, nineteen, x -> x.account(0, 2));
        EDGES.refuses("one more", Check.ROOM, Ledgers::fullOfAccounts, x -> x.account(0, 0));
        EDGES.refuses("one more of another", Check.ROOM, Ledgers::fullOfAccounts, x -> x.account(1, 2));
        EDGES.answers("the last one takes rows", 1, Ledgers::fullOfAccounts, x -> x.row(Ledgers.WITHOUT_ROWS, 19, 1));
    }

    private static void accountOwners() {
        EDGES.sentence("promise 3", "NoSuchElementException: an owner that there is not");
        EDGES.range(Check.NO_SUCH, 0, Ledgers.OWNERS - 1, Ledgers::rich, (x, owner) -> x.account(owner, 0));
        EDGES.range(Check.NO_SUCH, 0, 5, Ledgers::fullOfOwners, (x, owner) -> x.account(owner, 0));
    }

    private static void accountCurrencies() {
        EDGES.sentence("Terms", "a currency 0 .. 2");
        EDGES.range(Check.ARGUMENT, 0, 2, Ledgers::rich, (x, currency) -> x.account(0, currency));
    }

    private static long month(OwnerLedger x, int month) {
        x.month(month);
        return x.count(6);
    }

    private static void monthsInRange() {
        EDGES.sentence("Terms", "MONTHS are 0 .. 120");
        EDGES.range(Check.ARGUMENT, 0, 120, OwnerLedger::new, (x, month) -> month(x, month));
        EDGES.range(Check.ARGUMENT, Ledgers.MONTH, 120, Ledgers::rich, (x, month) -> month(x, month));
        EDGES.answers("the first", 0, OwnerLedger::new, x -> month(x, 0));
        EDGES.answers("the last", 120, OwnerLedger::new, x -> month(x, 120));
    }

    private static void monthGoesOn() {
        EDGES.sentence("promise 4", "IllegalArgumentException: also before the one that is");
        EDGES.refuses("the one before", Check.ARGUMENT, Ledgers::rich, x -> month(x, Ledgers.MONTH - 1));
        EDGES.refuses("month 0", Check.ARGUMENT, Ledgers::rich, x -> month(x, 0));
        EDGES.answers("the one that is", Ledgers.MONTH, Ledgers::rich, x -> month(x, Ledgers.MONTH));
        EDGES.changesNothing("the one that is", Ledgers::rich, x -> month(x, Ledgers.MONTH));
        EDGES.answers("the next one", Ledgers.MONTH + 1, Ledgers::rich, x -> month(x, Ledgers.MONTH + 1));
        Ledgers.Maker last = Ledgers.after(Ledgers::rich, x -> x.month(120));
        EDGES.refuses("119 in month 120", Check.ARGUMENT, last, x -> month(x, 119));
        EDGES.answers("120 in month 120", 120, last, x -> month(x, 120));
    }

    private static void closeInRange() {
        EDGES.sentence("promise 5", "IllegalArgumentException: not 0 .. the month that is");
        EDGES.range(Check.ARGUMENT, 0, 0, OwnerLedger::new, (x, month) -> x.close(month));
        Ledgers.Maker noneClosed = Ledgers.after(OwnerLedger::new, x -> x.month(7));
        EDGES.range(Check.ARGUMENT, 0, 7, noneClosed, (x, month) -> x.close(month));
        EDGES.refuses("the month to come", Check.ARGUMENT, Ledgers::rich, x -> x.close(Ledgers.MONTH + 1));
        EDGES.answers("all before month 120", 120 - Ledgers.CLOSED, Ledgers::rich, x -> {
            x.month(120);
            return x.close(120);
        });
        EDGES.refuses("121 in month 120", Check.ARGUMENT, Ledgers.after(Ledgers::rich, x -> x.month(120)),
                x -> x.close(121));
    }

    private static void closeNone() {
        EDGES.sentence("promise 5", "how many more that are: none");
        EDGES.answers("none of none", 0, OwnerLedger::new, x -> x.close(0));
        EDGES.answers("as many as are", 0, Ledgers::rich, x -> x.close(Ledgers.CLOSED));
        EDGES.changesNothing("as many as are", Ledgers::rich, x -> x.close(Ledgers.CLOSED));
    }

    private static void closeMore() {
        EDGES.sentence("promise 5", "All months before one are closed: how many more that are");
        EDGES.answers("one more", 1, Ledgers::rich, x -> x.close(Ledgers.CLOSED + 1));
        EDGES.answers("all before the month that is", 6, Ledgers::rich, x -> x.close(Ledgers.MONTH));
        EDGES.answers("the count of all", Ledgers.MONTH, Ledgers::rich, x -> {
            x.close(Ledgers.MONTH);
            return x.count(7);
        });
        EDGES.answers("the month that is stays open", Ledgers.BATCHES + 1, Ledgers::rich, x -> {
            x.close(Ledgers.MONTH);
            return x.batch(Ledgers.MONTH);
        });
    }

    private static void closeFewer() {
        EDGES.sentence("promise 5", "IllegalStateException: fewer would be closed than are");
        EDGES.refuses("one fewer", Check.STATE, Ledgers::rich, x -> x.close(Ledgers.CLOSED - 1));
        EDGES.refuses("none", Check.STATE, Ledgers::rich, x -> x.close(0));
        Ledgers.Maker one = Ledgers.after(OwnerLedger::new, x -> {
            x.month(1);
            x.close(1);
        });
        EDGES.refuses("none instead of one", Check.STATE, one, x -> x.close(0));
    }

    private static void batchesAsTheyCome() {
        EDGES.sentence("promise 6", "A batch for a month: its number");
        EDGES.answers("the first", 1, OwnerLedger::new, x -> x.batch(0));
        EDGES.answers("the next", Ledgers.BATCHES + 1, Ledgers::rich, x -> x.batch(Ledgers.MONTH));
        EDGES.answers("the month told", Ledgers.CLOSED, Ledgers::rich, x -> x.told(x.batch(Ledgers.CLOSED), 1));
        EDGES.answers("the month told, not one that came", Ledgers.MONTH, Ledgers::rich, x -> {
            int batch = x.batch(Ledgers.MONTH);
            x.month(11);
            return x.told(batch, 1);
        });
        EDGES.answers("it is OPEN", 0, Ledgers::rich, x -> x.told(x.batch(Ledgers.MONTH), 0));
        EDGES.answers("it is empty", 0, Ledgers::rich, x -> x.told(x.batch(Ledgers.MONTH), 2));
    }

    private static void batchMonths() {
        EDGES.sentence("promise 6", "IllegalArgumentException: not 0 .. the month that is");
        EDGES.range(Check.ARGUMENT, 0, 0, OwnerLedger::new, (x, month) -> x.batch(month));
        Ledgers.Maker noneClosed = Ledgers.after(OwnerLedger::new, x -> x.month(7));
        EDGES.range(Check.ARGUMENT, 0, 7, noneClosed, (x, month) -> x.batch(month));
        Ledgers.Maker last = Ledgers.after(OwnerLedger::new, x -> x.month(120));
        EDGES.range(Check.ARGUMENT, 0, 120, last, (x, month) -> x.batch(month));
        EDGES.refuses("the month to come", Check.ARGUMENT, Ledgers::rich, x -> x.batch(Ledgers.MONTH + 1));
    }

    private static void batchOfClosedMonth() {
        EDGES.sentence("promise 6", "IllegalStateException: it is closed");
        EDGES.refuses("the last that is closed", Check.STATE, Ledgers::rich, x -> x.batch(Ledgers.CLOSED - 1));
        EDGES.refuses("the first that is closed", Check.STATE, Ledgers::rich, x -> x.batch(0));
        EDGES.answers("the first that is not", Ledgers.BATCHES + 1, Ledgers::rich, x -> x.batch(Ledgers.CLOSED));
        Ledgers.Maker all = Ledgers.after(Ledgers::rich, x -> x.close(Ledgers.MONTH));
        EDGES.refuses("the month before the one that is", Check.STATE, all, x -> x.batch(Ledgers.MONTH - 1));
    }

    private static void mostBatches() {
        EDGES.sentence("Terms", "BATCHES 1, 2, .. (at most 30)");
        Ledgers.Maker almost = Ledgers.after(Ledgers::rich, x -> {
            for (int batch = Ledgers.BATCHES + 1; batch < 30; batch++) {
                x.batch(Ledgers.MONTH);
            }
        });
        EDGES.answers("the last place", 30, almost, x -> x.batch(Ledgers.MONTH));
        EDGES.answers("the last place by a reversal", 30, almost, x -> x.reverse(Ledgers.POSTED));
        EDGES.refuses("one more", Check.ROOM, Ledgers::fullOfBatches, x -> x.batch(Ledgers.MONTH));
        EDGES.refuses("one more for an earlier month", Check.ROOM, Ledgers::fullOfBatches,
                x -> x.batch(Ledgers.CLOSED));
        EDGES.refuses("one more behind a reversal", Check.ROOM,
                Ledgers.after(almost, x -> x.reverse(Ledgers.POSTED)), x -> x.batch(Ledgers.MONTH));
        EDGES.answers("the last one is posted", 1, Ledgers::fullOfBatches, x -> {
            x.row(30, 0, 1);
            x.row(30, 1, -1);
            return x.post(30);
        });
    }
}
