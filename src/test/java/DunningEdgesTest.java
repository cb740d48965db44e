/** The sentences about edges in promises 17 to 20, 22 and 24, and in the terms that they use. */
public final class DunningEdgesTest {
    private static final Edges EDGES = new Edges();
    private static final long MOST = Ledgers.MOST;

    public static void main(String[] args) {
        overdueIfOpen();
        overdueIfNotDisputed();
        overdueBehindDueMonth();
        nextStage();
        stageThreeHolds();
        dunInvoices();
        dunNotOverdue();
        dunInStageThree();
        rateInRange();
        rateCounts();
        interestInLowestTerms();
        interestOfTheMost();
        interestOfNothing();
        interestInvoices();
        interestSides();
        heldOrNot();
        holdCountsOverdue();
        holdOwners();
        holdItIsSo();
        heldGetsNoInvoices();
        knownOfInvoice();
        knownInvoices();
        knownWhats();
        countsOfNothingElse();
        counts();
        lookingChangesNothing();
        EDGES.end();
    }

    /** Two owners, and an invoice of the first in some month that is. */
    private static Ledgers.Maker invoice(long cents, int dueMonth, int month) {
        return Ledgers.after(OwnerLedger::new, x -> {
            x.owner();
            x.owner();
            x.invoice(0, cents, dueMonth);
            x.month(month);
        });
    }

    private static void overdue(String detail, boolean want, Ledgers.Maker maker) {
        EDGES.answers(detail + ": known", want ? 1 : 0, maker, x -> x.known(1, 3));
        EDGES.answers(detail + ": hold", want ? 1 : 0, maker, x -> x.hold(0, true));
        if (want) {
            EDGES.answers(detail + ": dun", 1, maker, x -> x.dun(1));
        } else {
            EDGES.refuses(detail + ": dun", Check.STATE, maker, x -> x.dun(1));
        }
    }

    private static void overdueIfOpen() {
        EDGES.sentence("Terms", "an invoice is OVERDUE if it has open cents");
        overdue("one cent", true, Ledgers.after(invoice(2, 0, 1), x -> x.settle(1, 1)));
        overdue("none", false, Ledgers.after(invoice(2, 0, 1), x -> x.settle(1, 2)));
        overdue("none by pay", false, Ledgers.after(invoice(2, 0, 1), x -> x.pay(0, 2)));
    }

    private static void overdueIfNotDisputed() {
        EDGES.sentence("Terms", "is not disputed");
        Ledgers.Maker disputed = Ledgers.after(invoice(2, 0, 1), x -> x.dispute(1, true));
        overdue("disputed", false, disputed);
        overdue("not any more", true, Ledgers.after(disputed, x -> x.dispute(1, false)));
    }

    private static void overdueBehindDueMonth() {
        EDGES.sentence("Terms", "and the month that is is behind its due one");
        overdue("the month before", false, invoice(2, 5, 4));
        overdue("the due month", false, invoice(2, 5, 5));
        overdue("the month behind", true, invoice(2, 5, 6));
        overdue("month 0 due in it", false, invoice(2, 0, 0));
        overdue("month 120 due in it", false, invoice(2, 120, 120));
        overdue("month 120 due before", true, invoice(2, 119, 120));
        overdue("month 120 due in month 0", true, invoice(2, 0, 120));
    }

    private static void nextStage() {
        EDGES.sentence("promise 17", "An overdue invoice comes to the next stage: which");
        EDGES.answers("0 at first", 0, invoice(2, 0, 1), x -> x.known(1, 1));
        EDGES.answers("1", 1, invoice(2, 0, 1), x -> x.dun(1));
        EDGES.answers("2", 2, invoice(2, 0, 1), x -> dunTimes(x, 1, 2));
        EDGES.answers("3", 3, invoice(2, 0, 1), x -> dunTimes(x, 1, 3));
        EDGES.answers("it is kept", 2, invoice(2, 0, 1), x -> {
            dunTimes(x, 1, 2);
            return x.known(1, 1);
        });
        EDGES.answers("this invoice alone", 0, Ledgers::rich, x -> {
            x.dun(Ledgers.OVERDUE);
            return x.known(Ledgers.DUE_NOW, 1);
        });
        EDGES.answers("it stays when all is paid", 2, invoice(2, 0, 1), x -> {
            dunTimes(x, 1, 2);
            x.settle(1, 2);
            return x.known(1, 1);
        });
    }

    private static int dunTimes(OwnerLedger x, int invoice, int times) {
        int stage = 0;
        for (int i = 0; i < times; i++) {
            stage = x.dun(invoice);
        }
        return stage;
    }

    private static void stageThreeHolds() {
        EDGES.sentence("promise 17", "with stage 3 its owner is held");
        Ledgers.Maker two = Ledgers.after(invoice(2, 0, 1), x -> dunTimes(x, 1, 2));
        Ledgers.Maker three = Ledgers.after(invoice(2, 0, 1), x -> dunTimes(x, 1, 3));
        EDGES.answers("not with stage 2", 0, two, x -> x.count(8));
        EDGES.answers("an invoice with stage 2", 2, two, x -> x.invoice(0, 1, 0));
        EDGES.answers("with stage 3", 1, three, x -> x.count(8));
        EDGES.refuses("no invoice with stage 3", Check.STATE, three, x -> x.invoice(0, 1, 0));
        EDGES.refuses("held is held", Check.STATE, three, x -> x.hold(0, true));
        EDGES.answers("not another", 2, three, x -> x.invoice(1, 1, 0));
        EDGES.answers("one that is held stays so", 1, Ledgers.after(two, x -> x.hold(0, true)), x -> {
            x.dun(1);
            return x.count(8);
        });
        EDGES.answers("held still when all is paid", 1, three, x -> {
            x.settle(1, 2);
            return x.count(8);
        });
        EDGES.answers("held still when all is paid by pay", 1, three, x -> {
            x.pay(0, 2);
            return x.count(8);
        });
        EDGES.answers("held still when it is disputed", 1, three, x -> {
            x.dispute(1, true);
            return x.count(8);
        });
        EDGES.answers("until it is not any more", 0, three, x -> {
            x.hold(0, false);
            return x.count(8);
        });
    }

    private static void dunInvoices() {
        EDGES.sentence("promise 17", "NoSuchElementException: an invoice that there is not");
        Ledgers.Maker two = Ledgers.after(invoice(2, 0, 1), x -> x.invoice(1, 2, 0));
        EDGES.range(Check.NO_SUCH, 1, 2, two, (x, invoice) -> x.dun(invoice));
        EDGES.range(Check.NO_SUCH, 1, 20, Ledgers.after(Ledgers::fullOfInvoices, x -> x.month(11)),
                (x, invoice) -> x.dun(invoice));
    }

    private static void dunNotOverdue() {
        EDGES.sentence("promise 17", "IllegalStateException: it is not overdue");
        EDGES.refuses("in its due month", Check.STATE, Ledgers::rich, x -> x.dun(Ledgers.DUE_NOW));
        EDGES.refuses("disputed", Check.STATE, Ledgers::rich, x -> x.dun(Ledgers.DISPUTED));
        EDGES.refuses("paid", Check.STATE, Ledgers::rich, x -> x.dun(Ledgers.PAID));
        EDGES.refuses("paid in stage 2, so no one is held", Check.STATE, Ledgers.after(invoice(2, 0, 1), x -> {
            dunTimes(x, 1, 2);
            x.settle(1, 2);
        }), x -> x.dun(1));
    }

    private static void dunInStageThree() {
        EDGES.sentence("promise 17", "IllegalStateException: or in stage 3");
        EDGES.refuses("held", Check.STATE, Ledgers::rich, x -> x.dun(Ledgers.LAST_STAGE));
        EDGES.refuses("not held any more, and is not held anew", Check.STATE,
                Ledgers.after(Ledgers::rich, x -> x.hold(Ledgers.HELD, false)), x -> x.dun(Ledgers.LAST_STAGE));
    }

    private static long rate(OwnerLedger x, int percents) {
        x.rate(percents);
        return 1;
    }

    private static void rateInRange() {
        EDGES.sentence("promise 18", "The rate. IllegalArgumentException (percents a year, 0 .. 100)");
        EDGES.range(Check.ARGUMENT, 0, 100, Ledgers::rich, (x, percents) -> rate(x, percents));
        EDGES.range(Check.ARGUMENT, 0, 100, OwnerLedger::new, (x, percents) -> rate(x, percents));
    }

    private static void rateCounts() {
        EDGES.sentence("promise 18", "The rate");
        for (int percents : new int[] {0, 1, 99, 100}) {
            EDGES.answers(percents + " percents of 1200 for a month", percents, invoice(1200, 0, 1), x -> {
                x.rate(percents);
                return x.interest(1, 0);
            });
        }
        EDGES.answers("the last one told", 3, invoice(1200, 0, 1), x -> {
            x.rate(100);
            x.rate(3);
            return x.interest(1, 0);
        });
        EDGES.answers("0 again", 0, Ledgers::rich, x -> {
            x.rate(0);
            return x.interest(Ledgers.OVERDUE, 0);
        });
    }

    private static void fraction(String detail, long upper, long lower, Ledgers.Maker maker, int percents) {
        Ledgers.Maker rated = Ledgers.after(maker, x -> x.rate(percents));
        EDGES.answers(detail + ", upper", upper, rated, x -> x.interest(1, 0));
        EDGES.answers(detail + ", lower", lower, rated, x -> x.interest(1, 1));
    }

    private static void interestInLowestTerms() {
        EDGES.sentence("promise 19", "The interest of an invoice as a fraction in lowest terms");
        fraction("the least", 1, 1200, invoice(1, 0, 1), 1);
        fraction("1199 of 1200", 1199, 1200, invoice(1199, 0, 1), 1);
        fraction("1200 of 1200", 1, 1, invoice(1200, 0, 1), 1);
        fraction("1201 of 1200", 1201, 1200, invoice(1201, 0, 1), 1);
        fraction("600 of 1200", 1, 2, invoice(600, 0, 1), 1);
        fraction("2400 of 1200", 2, 1, invoice(2400, 0, 1), 1);
        fraction("16 of 1200", 1, 75, invoice(16, 0, 1), 1);
        fraction("the months count", 7, 300, invoice(1, 3, 10), 4);
        fraction("120 months", 1, 10, invoice(1, 0, 120), 1);
        fraction("what is open counts", 1, 1200,
                Ledgers.after(invoice(1000, 0, 1), x -> x.settle(1, 999)), 1);
    }

    private static void interestOfTheMost() {
        EDGES.sentence("Terms", "open cents times the months that it is overdue times the RATE divided by 1200");
        fraction("the most", 10 * MOST, 1, invoice(MOST, 0, 120), 100);
        fraction("one cent less", 10 * (MOST - 1), 1, invoice(MOST - 1, 0, 120), 100);
        fraction("one month less", 29750000000L, 3, invoice(MOST, 1, 120), 100);
        fraction("one percent less", 9900000000L, 1, invoice(MOST, 0, 120), 99);
        fraction("primes", 999999937L * 119 * 97, 1200, invoice(999999937L, 1, 120), 97);
    }

    private static void interestOfNothing() {
        EDGES.sentence("promise 19", "its upper number (side 0; 0), its lower one (1; 1 then)");
        fraction("the rate is 0", 0, 1, invoice(MOST, 0, 120), 0);
        fraction("the due month", 0, 1, invoice(MOST, 5, 5), 100);
        fraction("before it", 0, 1, invoice(MOST, 120, 0), 100);
        fraction("disputed", 0, 1, Ledgers.after(invoice(MOST, 0, 120), x -> x.dispute(1, true)), 100);
        fraction("paid", 0, 1, Ledgers.after(invoice(MOST, 0, 120), x -> x.settle(1, MOST)), 100);
        fraction("one month behind it", 25, 3, invoice(100, 5, 6), 100);
    }

    private static void interestInvoices() {
        EDGES.sentence("promise 19", "NoSuchElementException: an invoice that there is not");
        EDGES.range(Check.NO_SUCH, 1, Ledgers.INVOICES, Ledgers::rich, (x, invoice) -> x.interest(invoice, 0));
        EDGES.range(Check.NO_SUCH, 1, 20, Ledgers::fullOfInvoices, (x, invoice) -> x.interest(invoice, 1));
    }

    private static void interestSides() {
        EDGES.sentence("promise 19", "IllegalArgumentException");
        EDGES.range(Check.ARGUMENT, 0, 1, Ledgers::rich, (x, side) -> x.interest(Ledgers.OVERDUE, side));
        EDGES.range(Check.ARGUMENT, 0, 1, Ledgers::rich, (x, side) -> x.interest(Ledgers.PAID, side));
    }

    private static void heldOrNot() {
        EDGES.sentence("promise 20", "An owner is held, or not any more");
        EDGES.answers("one more is held", 2, Ledgers::rich, x -> {
            x.hold(Ledgers.FREE, true);
            return x.count(8);
        });
        EDGES.answers("one fewer is", 0, Ledgers::rich, x -> {
            x.hold(Ledgers.HELD, false);
            return x.count(8);
        });
        EDGES.changesNothing("on and off", Ledgers::rich, x -> {
            x.hold(Ledgers.FREE, true);
            return x.hold(Ledgers.FREE, false);
        });
        EDGES.answers("all six", 6, Ledgers::fullOfOwners, x -> {
            for (int owner : new int[] {0, 1, 3, 4, 5}) {
                x.hold(owner, true);
            }
            return x.count(8);
        });
    }

    private static void holdCountsOverdue() {
        EDGES.sentence("promise 20", "how many of their invoices are overdue");
        EDGES.answers("one of three", 1, Ledgers::rich, x -> x.hold(Ledgers.FREE, true));
        EDGES.answers("two a month later", 2, Ledgers::rich, x -> {
            x.month(Ledgers.MONTH + 1);
            return x.hold(Ledgers.FREE, true);
        });
        EDGES.answers("none of one that is paid", 0, Ledgers::rich, x -> x.hold(Ledgers.CREDITED, true));
        EDGES.answers("off too", 1, Ledgers::rich, x -> x.hold(Ledgers.HELD, false));
        EDGES.answers("none there", 0, Ledgers::rich, x -> x.hold(x.owner(), true));
        EDGES.answers("all twenty", 20, Ledgers.after(invoice(1, 0, 1), x -> {
            for (int i = 2; i <= 20; i++) {
                x.invoice(0, 1, 0);
            }
        }), x -> x.hold(0, true));
    }

    private static void holdOwners() {
        EDGES.sentence("promise 20", "NoSuchElementException: an owner that there is not");
        EDGES.range(Check.NO_SUCH, 0, 1, invoice(1, 0, 0), (x, owner) -> x.hold(owner, true));
        EDGES.range(Check.NO_SUCH, 0, 5, Ledgers::fullOfOwners, (x, owner) -> x.hold(owner, true));
        EDGES.refuses("off", Check.NO_SUCH, Ledgers::rich, x -> x.hold(Ledgers.OWNERS, false));
        EDGES.refuses("off, below", Check.NO_SUCH, Ledgers::rich, x -> x.hold(-1, false));
    }

    private static void holdItIsSo() {
        EDGES.sentence("promise 20", "IllegalStateException: it is so");
        EDGES.refuses("held", Check.STATE, Ledgers::rich, x -> x.hold(Ledgers.HELD, true));
        EDGES.refuses("not held", Check.STATE, Ledgers::rich, x -> x.hold(Ledgers.FREE, false));
        EDGES.refuses("not any more", Check.STATE, Ledgers.after(Ledgers::rich, x -> x.hold(Ledgers.HELD, false)),
                x -> x.hold(Ledgers.HELD, false));
    }

    private static void heldGetsNoInvoices() {
        EDGES.sentence("Terms", "An owner is HELD, or not; a held one gets no invoices");
        EDGES.refuses("an invoice", Check.STATE, Ledgers::rich, x -> x.invoice(Ledgers.HELD, 1, 0));
        EDGES.answers("a payment", 0, Ledgers::rich, x -> x.pay(Ledgers.HELD, 1));
        EDGES.answers("an account", Ledgers.ACCOUNTS, Ledgers::rich, x -> x.account(Ledgers.HELD, 0));
        EDGES.answers("a dispute", 100, Ledgers::rich, x -> x.dispute(Ledgers.LAST_STAGE, true));
    }

    private static void known(String detail, int invoice, long... want) {
        for (int what = 0; what < want.length; what++) {
            int asked = what;
            EDGES.answers(detail + ", what " + what, want[what], Ledgers::rich, x -> x.known(invoice, asked));
        }
    }

    private static void knownOfInvoice() {
        EDGES.sentence("promise 22", "0 its open cents, 1 stage, 2 whether it is disputed, .. 5 due month");
        known("overdue", Ledgers.OVERDUE, 999, 0, 0, 1, Ledgers.FREE, 5);
        known("due now", Ledgers.DUE_NOW, 500, 0, 0, 0, Ledgers.FREE, Ledgers.MONTH);
        known("disputed", Ledgers.DISPUTED, 300, 0, 1, 0, Ledgers.FREE, 2);
        known("paid", Ledgers.PAID, 0, 0, 0, 0, Ledgers.CREDITED, 0);
        known("in the last stage", Ledgers.LAST_STAGE, 100, 3, 0, 1, Ledgers.HELD, 7);
    }

    private static void knownInvoices() {
        EDGES.sentence("promise 22", "NoSuchElementException");
        EDGES.range(Check.NO_SUCH, 1, Ledgers.INVOICES, Ledgers::rich, (x, invoice) -> x.known(invoice, 0));
        EDGES.range(Check.NO_SUCH, 1, 20, Ledgers::fullOfInvoices, (x, invoice) -> x.known(invoice, 0));
    }

    private static void knownWhats() {
        EDGES.sentence("promise 22", "IllegalArgumentException");
        EDGES.range(Check.ARGUMENT, 0, 5, Ledgers::rich, (x, what) -> x.known(Ledgers.OVERDUE, what));
    }

    private static void countsOfNothingElse() {
        EDGES.sentence("promise 24", "-1 for another what");
        for (int what : new int[] {Integer.MIN_VALUE, -256, -1, 9, 256, Integer.MAX_VALUE}) {
            EDGES.answers(String.valueOf(what), -1, Ledgers::rich, x -> x.count(what));
            EDGES.answers(what + " of a new object", -1, OwnerLedger::new, x -> x.count(what));
            EDGES.changesNothing(String.valueOf(what), Ledgers::rich, x -> x.count(what));
        }
    }

    private static void counts() {
        EDGES.sentence("promise 24", "0 owners, 1 accounts, 2 batches, .. 8 owners that are held");
        int[] want = {
            Ledgers.OWNERS, Ledgers.ACCOUNTS, Ledgers.BATCHES, 3, Ledgers.INVOICES, 4, Ledgers.MONTH, Ledgers.CLOSED, 1,
        };
        for (int what = 0; what < want.length; what++) {
            int asked = what;
            EDGES.answers("what " + what, want[what], Ledgers::rich, x -> x.count(asked));
        }
        EDGES.answers("the most owners", 6, Ledgers::fullOfOwners, x -> x.count(0));
        EDGES.answers("the most accounts", 20, Ledgers::fullOfAccounts, x -> x.count(1));
        EDGES.answers("the most batches", 30, Ledgers::fullOfBatches, x -> x.count(2));
        EDGES.answers("the most invoices", 20, Ledgers::fullOfInvoices, x -> x.count(4));
        EDGES.answers("one cent is open cents", 4, Ledgers::rich, x -> {
            x.settle(Ledgers.OVERDUE, 998);
            return x.count(5);
        });
        EDGES.answers("none is not", 3, Ledgers::rich, x -> {
            x.settle(Ledgers.OVERDUE, 999);
            return x.count(5);
        });
    }

    private static void lookingChangesNothing() {
        EDGES.sentence("promises 19, 22, 24", "interest, known and count only look");
        EDGES.changesNothing("interest", Ledgers::rich, x -> x.interest(Ledgers.OVERDUE, 0));
        EDGES.changesNothing("known", Ledgers::rich, x -> x.known(Ledgers.OVERDUE, 3));
        EDGES.changesNothing("count", Ledgers::rich, x -> x.count(3));
    }
}
