/** The sentences about edges in promises 13 to 16 and 23, and in the terms that they use. */
public final class InvoiceEdgesTest {
    private static final Edges EDGES = new Edges();
    private static final long MOST = Ledgers.MOST;

    public static void main(String[] args) {
        invoicesAsTheyCome();
        mostInvoices();
        invoiceOwners();
        invoiceCents();
        invoiceDueMonths();
        creditPaysAtOnce();
        invoiceOfHeldOwner();
        openCentsAreNotPaid();
        payOwners();
        payCents();
        payLeastDueMonthFirst();
        payEqualDueMonths();
        payLeavesDisputedOut();
        payLeavesOthersOut();
        payRestIsCredit();
        payCountsPaidUp();
        settleLeavesOpen();
        settleAboveIsCredit();
        settleDisputedToo();
        settleInvoices();
        settleCents();
        disputedOrNot();
        disputeInvoices();
        disputeItIsSo();
        creditAtFirst();
        creditOfOwner();
        creditOwners();
        EDGES.end();
    }

    /** Two owners; owner 0 has invoices of 100 cents due in the months told. */
    private static Ledgers.Maker due(int... months) {
        return Ledgers.after(OwnerLedger::new, x -> {
            x.owner();
            x.owner();
            for (int month : months) {
                x.invoice(0, 100, month);
            }
        });
    }

    private static void opens(String detail, Ledgers.Maker maker, Ledgers.Steps steps, long... want) {
        for (int i = 0; i < want.length; i++) {
            int invoice = i + 1;
            EDGES.answers(detail + ", invoice " + invoice, want[i], Ledgers.after(maker, steps),
                    x -> x.known(invoice, 0));
        }
    }

    private static void invoicesAsTheyCome() {
        EDGES.sentence("promise 13", "An invoice: its number");
        EDGES.answers("the first", 1, due(), x -> x.invoice(0, 1, 0));
        EDGES.answers("the next", Ledgers.INVOICES + 1, Ledgers::rich, x -> x.invoice(Ledgers.FREE, 1, 0));
        EDGES.answers("its owner", Ledgers.CREDITED, Ledgers::rich,
                x -> x.known(x.invoice(Ledgers.CREDITED, 100, 0), 4));
        EDGES.answers("stage 0 at first", 0, Ledgers::rich, x -> x.known(x.invoice(Ledgers.FREE, 1, 0), 1));
        EDGES.answers("not disputed at first", 0, Ledgers::rich, x -> x.known(x.invoice(Ledgers.FREE, 1, 0), 2));
    }

    private static void mostInvoices() {
        EDGES.sentence("Terms", "INVOICES 1, 2, .. (at most 20)");
        Ledgers.Maker nineteen = Ledgers.after(Ledgers::rich, x -> {
            for (int invoice = Ledgers.INVOICES + 1; invoice < 20; invoice++) {
                x.invoice(Ledgers.FREE, 10, 0);
            }
        });
        EDGES.answers("the last place", 20, nineteen, x -> x.invoice(Ledgers.FREE, 10, 0));
        EDGES.refuses("one more", Check.ROOM, Ledgers::fullOfInvoices, x -> x.invoice(Ledgers.FREE, 1, 0));
        EDGES.refuses("one more that credit would pay", Check.ROOM, Ledgers::fullOfInvoices,
                x -> x.invoice(Ledgers.CREDITED, Ledgers.CREDIT, 0));
        EDGES.refuses("paid ones keep their places", Check.ROOM,
                Ledgers.after(Ledgers::fullOfInvoices, x -> x.pay(Ledgers.FREE, MOST)),
                x -> x.invoice(Ledgers.FREE, 1, 0));
        EDGES.answers("the last one is paid", 0, Ledgers::fullOfInvoices, x -> x.settle(20, 10));
    }

    private static void invoiceOwners() {
        EDGES.sentence("promise 13", "NoSuchElementException: an owner that there is not");
        EDGES.range(Check.NO_SUCH, 0, 1, due(), (x, owner) -> x.invoice(owner, 1, 0));
        EDGES.range(Check.NO_SUCH, 0, 5, Ledgers::fullOfOwners, (x, owner) -> x.invoice(owner, 1, 0));
    }

    private static void invoiceCents() {
        EDGES.sentence("Terms", "an owner, cents 1 .. 1000000000");
        EDGES.rangeOfCents(1, MOST, Ledgers::rich, (x, cents) -> x.invoice(Ledgers.FREE, cents, 0));
        EDGES.refuses("0", Check.ARGUMENT, Ledgers::rich, x -> x.invoice(Ledgers.FREE, 0, 0));
        EDGES.refuses("0 with credit", Check.ARGUMENT, Ledgers::rich, x -> x.invoice(Ledgers.CREDITED, 0, 0));
        EDGES.answers("the least is open", 1, Ledgers::rich, x -> x.known(x.invoice(Ledgers.FREE, 1, 0), 0));
        EDGES.answers("the most is open", MOST, Ledgers::rich, x -> x.known(x.invoice(Ledgers.FREE, MOST, 0), 0));
    }

    private static void invoiceDueMonths() {
        EDGES.sentence("Terms", "a due month (MONTHS are 0 .. 120)");
        EDGES.range(Check.ARGUMENT, 0, 120, due(), (x, month) -> x.invoice(0, 1, month));
        EDGES.range(Check.ARGUMENT, 0, 120, Ledgers::rich, (x, month) -> x.invoice(Ledgers.FREE, 1, month));
        EDGES.answers("the last is kept", 120, Ledgers::rich, x -> x.known(x.invoice(0, 1, 120), 5));
        EDGES.answers("the first is kept", 0, Ledgers::rich, x -> x.known(x.invoice(0, 1, 0), 5));
    }

    private static void creditPaysAtOnce() {
        EDGES.sentence("promise 13", "credit of the owner pays it at once, as far as it goes");
        int next = Ledgers.INVOICES + 1;
        long credit = Ledgers.CREDIT;
        for (long cents : new long[] {1, credit - 1, credit, credit + 1, MOST}) {
            Ledgers.Maker made = Ledgers.after(Ledgers::rich, x -> x.invoice(Ledgers.CREDITED, cents, 0));
            EDGES.answers("open of " + cents, Math.max(0, cents - credit), made, x -> x.known(next, 0));
            EDGES.answers("credit behind " + cents, Math.max(0, credit - cents), made,
                    x -> x.credit(Ledgers.CREDITED));
        }
        Ledgers.Maker another = Ledgers.after(Ledgers::rich, x -> x.invoice(Ledgers.FREE, 10, 0));
        EDGES.answers("another's credit pays nothing", 10, another, x -> x.known(next, 0));
        EDGES.answers("another's credit stays", credit, another, x -> x.credit(Ledgers.CREDITED));
        EDGES.answers("a paid one is not overdue", 0, Ledgers::rich,
                x -> x.known(x.invoice(Ledgers.CREDITED, credit, 0), 3));
        EDGES.answers("one cent more is", 1, Ledgers::rich,
                x -> x.known(x.invoice(Ledgers.CREDITED, credit + 1, 0), 3));
    }

    private static void invoiceOfHeldOwner() {
        EDGES.sentence("promise 13", "IllegalStateException: the owner is held");
        EDGES.refuses("by dunning", Check.STATE, Ledgers::rich, x -> x.invoice(Ledgers.HELD, 1, 0));
        EDGES.refuses("by hold", Check.STATE, Ledgers.after(Ledgers::rich, x -> x.hold(Ledgers.CREDITED, true)),
                x -> x.invoice(Ledgers.CREDITED, 1, 0));
        EDGES.answers("not any more", Ledgers.INVOICES + 1, Ledgers::rich, x -> {
            x.hold(Ledgers.HELD, false);
            return x.invoice(Ledgers.HELD, 1, 0);
        });
        EDGES.answers("another one", Ledgers.INVOICES + 1, Ledgers::rich, x -> x.invoice(Ledgers.FREE, 1, 0));
    }

    private static void openCentsAreNotPaid() {
        EDGES.sentence("Terms", "OPEN cents are what is not paid");
        opens("one cent less", due(0), x -> x.pay(0, 99), 1);
        opens("all of them", due(0), x -> x.pay(0, 100), 0);
        opens("one cent more", due(0), x -> x.pay(0, 101), 0);
    }

    private static void payOwners() {
        EDGES.sentence("promise 14", "NoSuchElementException: an owner that there is not");
        EDGES.range(Check.NO_SUCH, 0, Ledgers.OWNERS - 1, Ledgers::rich, (x, owner) -> x.pay(owner, 1));
        EDGES.range(Check.NO_SUCH, 0, 5, Ledgers::fullOfOwners, (x, owner) -> x.pay(owner, 1));
    }

    private static void payCents() {
        EDGES.sentence("promise 14", "An owner pays (1 .. 1000000000)");
        EDGES.rangeOfCents(1, MOST, Ledgers::rich, (x, cents) -> x.pay(Ledgers.FREE, cents));
        EDGES.rangeOfCents(1, MOST, Ledgers::rich, (x, cents) -> x.pay(Ledgers.CREDITED, cents));
        EDGES.refuses("0", Check.ARGUMENT, Ledgers::rich, x -> x.pay(Ledgers.FREE, 0));
        EDGES.answers("a held one too", 1, Ledgers::rich, x -> x.pay(Ledgers.HELD, 100));
    }

    private static void payLeastDueMonthFirst() {
        EDGES.sentence("promise 14", "the least due month first");
        opens("the last number", due(120, 1, 0), x -> x.pay(0, 1), 100, 100, 99);
        opens("then the next month", due(120, 1, 0), x -> x.pay(0, 101), 100, 99, 0);
        opens("month 120 last", due(120, 119, 0), x -> x.pay(0, 201), 99, 0, 0);
        opens("paid ones are passed over", due(3, 2, 1), x -> {
            x.settle(3, 100);
            x.pay(0, 1);
        }, 100, 99, 0);
    }

    private static void payEqualDueMonths() {
        EDGES.sentence("promise 14", "of equal ones the least number");
        opens("the first of three", due(5, 5, 5), x -> x.pay(0, 1), 99, 100, 100);
        opens("then the second", due(5, 5, 5), x -> x.pay(0, 101), 0, 99, 100);
        opens("then the third", due(5, 5, 5), x -> x.pay(0, 201), 0, 0, 99);
        opens("behind one of a lesser month", due(5, 5, 4), x -> x.pay(0, 101), 99, 100, 0);
        opens("one that is paid in part counts no more", due(5, 5, 5), x -> {
            x.settle(2, 50);
            x.pay(0, 1);
        }, 99, 50, 100);
    }

    private static void payLeavesDisputedOut() {
        EDGES.sentence("promise 14", "disputed ones left out");
        opens("the least month", due(0, 1), x -> {
            x.dispute(1, true);
            x.pay(0, 1);
        }, 100, 99);
        Ledgers.Steps allDisputed = x -> {
            x.dispute(1, true);
            x.pay(0, 150);
        };
        opens("the only one", due(0), allDisputed, 100);
        EDGES.answers("all is credit then", 150, Ledgers.after(due(0), allDisputed), x -> x.credit(0));
        opens("not any more", due(0, 1), x -> {
            x.dispute(1, true);
            x.dispute(1, false);
            x.pay(0, 1);
        }, 99, 100);
        EDGES.answers("none is paid up", 0, due(0), x -> {
            x.dispute(1, true);
            return x.pay(0, 100);
        });
    }

    private static void payLeavesOthersOut() {
        EDGES.sentence("promise 14", "their invoices");
        opens("not another's", due(0), x -> x.pay(1, 100), 100);
        EDGES.answers("it is credit", 100, due(0), x -> {
            x.pay(1, 100);
            return x.credit(1);
        });
        EDGES.answers("not the other's credit", 0, due(0), x -> {
            x.pay(1, 100);
            return x.credit(0);
        });
    }

    private static void payRestIsCredit() {
        EDGES.sentence("promise 14", "the rest is credit");
        for (long cents : new long[] {1, 199, 200, 201, MOST}) {
            EDGES.answers("of " + cents, Math.max(0, cents - 200), due(0, 1), x -> {
                x.pay(0, cents);
                return x.credit(0);
            });
        }
        EDGES.answers("it is added", Ledgers.CREDIT + 5, Ledgers::rich, x -> {
            x.pay(Ledgers.CREDITED, 5);
            return x.credit(Ledgers.CREDITED);
        });
        Ledgers.Maker besideCredit = Ledgers.after(due(0), x -> {
            x.dispute(1, true);
            x.pay(0, 70);
            x.dispute(1, false);
            x.pay(0, 40);
        });
        EDGES.answers("the credit before does not pay", 60, besideCredit, x -> x.known(1, 0));
        EDGES.answers("the credit before stays", 70, besideCredit, x -> x.credit(0));
    }

    private static void payCountsPaidUp() {
        EDGES.sentence("promise 14", "how many invoices were paid up by it");
        long[] cents = {1, 99, 100, 101, 199, 200, 300, 301};
        long[] want = {0, 0, 1, 1, 1, 2, 3, 3};
        for (int i = 0; i < cents.length; i++) {
            long paid = cents[i];
            EDGES.answers(paid + " of three hundred", want[i], due(1, 2, 3), x -> x.pay(0, paid));
        }
        EDGES.answers("not those paid before", 1, due(1, 2), x -> {
            x.pay(0, 150);
            return x.pay(0, 50);
        });
        EDGES.answers("by its last cent", 1, due(0), x -> {
            x.pay(0, 99);
            return x.pay(0, 1);
        });
        EDGES.answers("none there", 0, due(), x -> x.pay(0, 1));
        EDGES.answers("all twenty", 20, due(new int[20]), x -> x.pay(0, 2000));
        EDGES.answers("all but a cent of the twentieth", 19, due(new int[20]), x -> x.pay(0, 1999));
    }

    private static void settleLeavesOpen() {
        EDGES.sentence("promise 15", "A payment for one invoice: what is open of it then");
        EDGES.answers("one cent", 99, due(0, 0), x -> x.settle(2, 1));
        EDGES.answers("all but one", 1, due(0, 0), x -> x.settle(2, 99));
        EDGES.answers("all", 0, due(0, 0), x -> x.settle(2, 100));
        EDGES.answers("more than all", 0, due(0, 0), x -> x.settle(2, 101));
        EDGES.answers("of a paid one", 0, Ledgers::rich, x -> x.settle(Ledgers.PAID, 1));
        opens("of this one alone", due(0, 0, 0), x -> x.settle(2, MOST), 100, 0, 100);
        EDGES.answers("of a held owner too", 99, Ledgers::rich, x -> x.settle(Ledgers.LAST_STAGE, 1));
    }

    private static void settleAboveIsCredit() {
        EDGES.sentence("promise 15", "what is above that is credit of its owner");
        long[] cents = {1, 100, 101, MOST};
        for (long paid : cents) {
            Ledgers.Maker settled = Ledgers.after(due(0), x -> x.settle(1, paid));
            EDGES.answers("of " + paid, Math.max(0, paid - 100), settled, x -> x.credit(0));
            EDGES.answers("of " + paid + ", another's", 0, settled, x -> x.credit(1));
        }
        EDGES.answers("all of it for a paid one", Ledgers.CREDIT + 1, Ledgers::rich, x -> {
            x.settle(Ledgers.PAID, 1);
            return x.credit(Ledgers.CREDITED);
        });
    }

    private static void settleDisputedToo() {
        EDGES.sentence("promise 15", "(Disputed ones too.)");
        EDGES.answers("a part", 299, Ledgers::rich, x -> x.settle(Ledgers.DISPUTED, 1));
        EDGES.answers("more than all", 0, Ledgers::rich, x -> x.settle(Ledgers.DISPUTED, 301));
        EDGES.answers("what is above", 1, Ledgers::rich, x -> {
            x.settle(Ledgers.DISPUTED, 301);
            return x.credit(Ledgers.FREE);
        });
        EDGES.answers("it stays disputed", 1, Ledgers::rich, x -> {
            x.settle(Ledgers.DISPUTED, 301);
            return x.known(Ledgers.DISPUTED, 2);
        });
    }

    private static void settleInvoices() {
        EDGES.sentence("promise 15", "NoSuchElementException: an invoice that there is not");
        EDGES.range(Check.NO_SUCH, 1, Ledgers.INVOICES, Ledgers::rich, (x, invoice) -> x.settle(invoice, 1));
        EDGES.range(Check.NO_SUCH, 1, 20, Ledgers::fullOfInvoices, (x, invoice) -> x.settle(invoice, 1));
    }

    private static void settleCents() {
        EDGES.sentence("promise 15", "IllegalArgumentException: a payment has the range of pay");
        EDGES.rangeOfCents(1, MOST, Ledgers::rich, (x, cents) -> x.settle(Ledgers.OVERDUE, cents));
        EDGES.rangeOfCents(1, MOST, Ledgers::rich, (x, cents) -> x.settle(Ledgers.PAID, cents));
        EDGES.refuses("0", Check.ARGUMENT, Ledgers::rich, x -> x.settle(Ledgers.OVERDUE, 0));
    }

    private static void disputedOrNot() {
        EDGES.sentence("promise 16", "An invoice is disputed, or not any more: its open cents");
        EDGES.answers("on", 999, Ledgers::rich, x -> x.dispute(Ledgers.OVERDUE, true));
        EDGES.answers("off", 300, Ledgers::rich, x -> x.dispute(Ledgers.DISPUTED, false));
        EDGES.answers("on, of a paid one", 0, Ledgers::rich, x -> x.dispute(Ledgers.PAID, true));
        EDGES.answers("off, with credit: it pays what comes later", 100, due(0), x -> {
            x.dispute(1, true);
            x.pay(0, 70);
            x.dispute(1, false);
            return x.known(1, 0);
        });
        EDGES.answers("on: it is", 1, Ledgers::rich, x -> {
            x.dispute(Ledgers.OVERDUE, true);
            return x.known(Ledgers.OVERDUE, 2);
        });
        EDGES.answers("off: it is not", 0, Ledgers::rich, x -> {
            x.dispute(Ledgers.DISPUTED, false);
            return x.known(Ledgers.DISPUTED, 2);
        });
        EDGES.changesNothing("on and off", Ledgers::rich, x -> {
            x.dispute(Ledgers.OVERDUE, true);
            return x.dispute(Ledgers.OVERDUE, false);
        });
    }

    private static void disputeInvoices() {
        EDGES.sentence("promise 16", "NoSuchElementException: an invoice that there is not");
        EDGES.range(Check.NO_SUCH, 1, Ledgers.INVOICES, Ledgers::rich, (x, invoice) -> x.dispute(invoice, true));
        EDGES.range(Check.NO_SUCH, 1, 20, Ledgers::fullOfInvoices, (x, invoice) -> x.dispute(invoice, true));
        EDGES.refuses("off", Check.NO_SUCH, Ledgers::rich, x -> x.dispute(Ledgers.INVOICES + 1, false));
    }

    private static void disputeItIsSo() {
        EDGES.sentence("promise 16", "IllegalStateException: it is so");
        EDGES.refuses("disputed", Check.STATE, Ledgers::rich, x -> x.dispute(Ledgers.DISPUTED, true));
        EDGES.refuses("not disputed", Check.STATE, Ledgers::rich, x -> x.dispute(Ledgers.OVERDUE, false));
        EDGES.refuses("not disputed and paid", Check.STATE, Ledgers::rich, x -> x.dispute(Ledgers.PAID, false));
        EDGES.refuses("not any more", Check.STATE,
                Ledgers.after(Ledgers::rich, x -> x.dispute(Ledgers.DISPUTED, false)),
                x -> x.dispute(Ledgers.DISPUTED, false));
    }

    private static void creditAtFirst() {
        EDGES.sentence("Terms", "CREDIT of an owner (0 at first)");
        EDGES.answers("the first", 0, due(), x -> x.credit(0));
        EDGES.answers("the last there can be", 0, Ledgers::fullOfOwners, x -> x.credit(5));
        EDGES.answers("a new one beside one with credit", 0, Ledgers::rich, x -> x.credit(x.owner()));
    }

    private static void creditOfOwner() {
        EDGES.sentence("promise 23", "An owner's credit");
        EDGES.answers("what met no invoice", Ledgers.CREDIT, Ledgers::rich, x -> x.credit(Ledgers.CREDITED));
        EDGES.answers("one cent", 1, due(), x -> {
            x.pay(0, 1);
            return x.credit(0);
        });
        EDGES.answers("of a held one", 7, Ledgers::rich, x -> {
            x.pay(Ledgers.HELD, 107);
            return x.credit(Ledgers.HELD);
        });
        EDGES.changesNothing("looking", Ledgers::rich, x -> x.credit(Ledgers.CREDITED));
    }

    private static void creditOwners() {
        EDGES.sentence("promise 23", "NoSuchElementException: an owner that there is not");
        EDGES.range(Check.NO_SUCH, 0, Ledgers.OWNERS - 1, Ledgers::rich, (x, owner) -> x.credit(owner));
        EDGES.range(Check.NO_SUCH, 0, 5, Ledgers::fullOfOwners, (x, owner) -> x.credit(owner));
    }
}
