/** Promises 13 to 20 and 22 to 24: invoices, payments, disputes, dunning, interest, holds, counts. */
public final class InvoicesTest {
    private static final Check CHECK = new Check();
    private static final long MOST = 1000000000L;

    public static void main(String[] args) {
        invoices();
        invoiceRefusalsInOrder();
        creditPaysInvoices();
        payments();
        paymentsLeaveOthersAlone();
        paymentRefusals();
        settling();
        disputes();
        dunning();
        dunningHolds();
        rates();
        interests();
        interestOfNothing();
        holds();
        knowing();
        credits();
        counts();
        CHECK.end();
    }

    private static OwnerLedger ledger() {
        OwnerLedger x = new OwnerLedger();
        x.owner();
        x.owner();
        return x;
    }

    private static void open(String what, OwnerLedger x, long... want) {
        for (int i = 0; i < want.length; i++) {
            int number = i + 1;
            CHECK.due(what + ", invoice " + number, want[i], () -> x.known(number, 0));
        }
    }

    private static void invoices() {
        OwnerLedger x = ledger();
        CHECK.refused("13: no owner 2", Check.NO_SUCH, () -> x.invoice(2, 5, 0));
        CHECK.refused("13: no owner -1", Check.NO_SUCH, () -> x.invoice(-1, 5, 0));
        CHECK.refused("13: 0 cents", Check.ARGUMENT, () -> x.invoice(0, 0, 0));
        CHECK.refused("13: -1 cents", Check.ARGUMENT, () -> x.invoice(0, -1, 0));
        CHECK.refused("13: too many cents", Check.ARGUMENT, () -> x.invoice(0, MOST + 1, 0));
        CHECK.refused("13: cents of 64 bits", Check.ARGUMENT, () -> x.invoice(0, (1L << 32) + 5, 0));
        CHECK.refused("13: due month 121", Check.ARGUMENT, () -> x.invoice(0, 5, 121));
        CHECK.refused("13: due month -1", Check.ARGUMENT, () -> x.invoice(0, 5, -1));
        CHECK.due("13: none was made", 0, () -> x.count(4));
        CHECK.due("13: the most", 1, () -> x.invoice(1, MOST, 120));
        CHECK.due("13: the least", 2, () -> x.invoice(0, 1, 0));
        open("13: open cents", x, MOST, 1);
        x.month(5);
        CHECK.due("13: due before the month that is", 3, () -> x.invoice(0, 9, 2));
        CHECK.due("13: it is overdue at once", 1, () -> x.known(3, 3));
    }

    private static void invoiceRefusalsInOrder() {
        OwnerLedger x = ledger();
        x.hold(1, true);
        CHECK.refused("13: a held owner", Check.STATE, () -> x.invoice(1, 5, 0));
        CHECK.refused("13: the cents before the hold", Check.ARGUMENT, () -> x.invoice(1, 0, 0));
        CHECK.refused("13: the month before the hold", Check.ARGUMENT, () -> x.invoice(1, 5, 121));
        for (int i = 1; i <= 20; i++) {
            CHECK.due("13: invoice " + i, i, () -> x.invoice(0, 5, 0));
        }
        CHECK.refused("13: a 21st", Check.ROOM, () -> x.invoice(0, 5, 0));
        CHECK.due("22: the last there can be", 5, () -> x.known(20, 0));
        CHECK.refused("22: behind the last", Check.NO_SUCH, () -> x.known(21, 0));
        CHECK.refused("13: the hold before the room", Check.STATE, () -> x.invoice(1, 5, 0));
        CHECK.refused("13: the range before the room", Check.ARGUMENT, () -> x.invoice(0, 0, 0));
        CHECK.refused("13: the owner before the range", Check.NO_SUCH, () -> x.invoice(2, 0, 121));
        x.pay(0, 1000);
        CHECK.refused("13: no room with credit", Check.ROOM, () -> x.invoice(0, 5, 0));
        CHECK.due("13: a refusal takes no credit", 900, () -> x.credit(0));
    }

    private static void creditPaysInvoices() {
        OwnerLedger x = ledger();
        x.pay(0, 100);
        x.invoice(1, 30, 0);
        CHECK.due("13: another's credit stays", 100, () -> x.credit(0));
        x.invoice(0, 40, 9);
        CHECK.due("13: what is left of it", 60, () -> x.credit(0));
        x.invoice(0, 60, 9);
        CHECK.due("13: all of it", 0, () -> x.credit(0));
        x.pay(0, 10);
        x.invoice(0, 25, 9);
        open("13: as far as it goes", x, 30, 0, 0, 15);
        CHECK.due("13: no credit is left", 0, () -> x.credit(0));
        OwnerLedger y = ledger();
        for (int i = 0; i < 5; i++) {
            y.pay(0, MOST);
        }
        y.invoice(0, 1, 0);
        CHECK.due("13: credit above 32 bits", 5 * MOST - 1, () -> y.credit(0));
    }

    private static void payments() {
        OwnerLedger x = ledger();
        x.invoice(0, 100, 7);
        x.invoice(0, 200, 3);
        x.invoice(0, 300, 3);
        x.invoice(0, 400, 0);
        CHECK.due("14: part of the least due", 0, () -> x.pay(0, 399));
        open("14: part of the least due", x, 100, 200, 300, 1);
        CHECK.due("14: of equal ones the least number", 1, () -> x.pay(0, 51));
        open("14: of equal ones the least number", x, 100, 150, 300, 0);
        CHECK.due("14: exactly up", 2, () -> x.pay(0, 450));
        open("14: exactly up", x, 100, 0, 0, 0);
        CHECK.due("14: the rest is credit", 1, () -> x.pay(0, 130));
        open("14: the rest is credit", x, 0, 0, 0, 0);
        CHECK.due("14: the credit", 30, () -> x.credit(0));
        CHECK.due("14: nothing to pay", 0, () -> x.pay(0, 5));
        CHECK.due("14: more credit", 35, () -> x.credit(0));
        OwnerLedger many = ledger();
        for (int i = 0; i < 20; i++) {
            many.invoice(1, 10, 19 - i);
        }
        CHECK.due("14: twenty at once", 20, () -> many.pay(1, 201));
        CHECK.due("14: one cent above", 1, () -> many.credit(1));
    }

    private static void paymentsLeaveOthersAlone() {
        OwnerLedger x = ledger();
        x.invoice(1, 100, 0);
        x.invoice(0, 100, 1);
        x.invoice(0, 100, 2);
        x.dispute(2, true);
        CHECK.due("14: disputed ones left out", 1, () -> x.pay(0, 150));
        open("14: disputed ones left out", x, 100, 100, 0);
        CHECK.due("14: what met no invoice", 50, () -> x.credit(0));
        CHECK.due("14: not another's credit", 0, () -> x.credit(1));
        x.dispute(2, false);
        CHECK.due("14: credit waits for new invoices", 50, () -> x.credit(0));
        CHECK.due("14: and no payment takes it", 0, () -> x.pay(0, 60));
        open("14: not disputed any more", x, 100, 40, 0);
        CHECK.due("14: the credit is as it was", 50, () -> x.credit(0));
        x.hold(0, true);
        CHECK.due("14: a held owner pays", 1, () -> x.pay(0, 40));
    }

    private static void paymentRefusals() {
        OwnerLedger x = ledger();
        CHECK.refused("14: no owner 2", Check.NO_SUCH, () -> x.pay(2, 5));
        CHECK.refused("14: no owner -1", Check.NO_SUCH, () -> x.pay(-1, 5));
        CHECK.refused("14: the owner before the cents", Check.NO_SUCH, () -> x.pay(2, 0));
        CHECK.refused("14: 0 cents", Check.ARGUMENT, () -> x.pay(0, 0));
        CHECK.refused("14: -1 cents", Check.ARGUMENT, () -> x.pay(0, -1));
        CHECK.refused("14: too many cents", Check.ARGUMENT, () -> x.pay(0, MOST + 1));
        CHECK.refused("14: the least long", Check.ARGUMENT, () -> x.pay(0, Long.MIN_VALUE));
        CHECK.due("14: the most cents", 0, () -> x.pay(0, MOST));
        CHECK.due("14: the least cents", 0, () -> x.pay(0, 1));
        CHECK.due("14: both are credit", MOST + 1, () -> x.credit(0));
    }

    private static void settling() {
        OwnerLedger x = ledger();
        x.invoice(0, 100, 0);
        x.invoice(1, 100, 0);
        x.invoice(1, 100, 0);
        CHECK.due("15: a part", 70, () -> x.settle(3, 30));
        open("15: of this one alone", x, 100, 100, 70);
        CHECK.due("15: all of it", 0, () -> x.settle(3, 70));
        CHECK.due("15: no credit by it", 0, () -> x.credit(1));
        CHECK.due("15: a paid one", 0, () -> x.settle(3, 8));
        CHECK.due("15: credit of its owner", 8, () -> x.credit(1));
        x.dispute(2, true);
        CHECK.due("15: a disputed one too", 0, () -> x.settle(2, 101));
        CHECK.due("15: what is above", 9, () -> x.credit(1));
        CHECK.due("15: not another's", 0, () -> x.credit(0));
        CHECK.refused("15: no invoice 0", Check.NO_SUCH, () -> x.settle(0, 5));
        CHECK.refused("15: no invoice 4", Check.NO_SUCH, () -> x.settle(4, 5));
        CHECK.refused("15: no invoice 21", Check.NO_SUCH, () -> x.settle(21, 5));
        CHECK.refused("15: the invoice before the cents", Check.NO_SUCH, () -> x.settle(4, 0));
        CHECK.refused("15: 0 cents", Check.ARGUMENT, () -> x.settle(1, 0));
        CHECK.refused("15: too many cents", Check.ARGUMENT, () -> x.settle(1, MOST + 1));
        CHECK.due("15: the most cents", 0, () -> x.settle(1, MOST));
        CHECK.due("15: the credit of those", MOST - 100, () -> x.credit(0));
    }

    private static void disputes() {
        OwnerLedger x = ledger();
        x.invoice(0, 100, 0);
        x.settle(1, 1);
        CHECK.refused("16: it is not disputed", Check.STATE, () -> x.dispute(1, false));
        CHECK.due("16: disputed", 99, () -> x.dispute(1, true));
        CHECK.due("16: it is", 1, () -> x.known(1, 2));
        CHECK.refused("16: it is disputed", Check.STATE, () -> x.dispute(1, true));
        x.month(1);
        CHECK.due("16: a disputed one is not overdue", 0, () -> x.known(1, 3));
        CHECK.due("16: not any more", 99, () -> x.dispute(1, false));
        CHECK.due("16: it is not", 0, () -> x.known(1, 2));
        CHECK.due("16: and overdue", 1, () -> x.known(1, 3));
        CHECK.refused("16: no invoice 2", Check.NO_SUCH, () -> x.dispute(2, true));
        CHECK.refused("16: no invoice -1", Check.NO_SUCH, () -> x.dispute(-1, false));
        x.settle(1, 99);
        CHECK.due("16: a paid one", 0, () -> x.dispute(1, true));
    }

    private static void dunning() {
        OwnerLedger x = ledger();
        x.invoice(0, 100, 2);
        CHECK.refused("17: no invoice 2", Check.NO_SUCH, () -> x.dun(2));
        CHECK.refused("17: before the due month", Check.STATE, () -> x.dun(1));
        x.month(2);
        CHECK.refused("17: in the due month", Check.STATE, () -> x.dun(1));
        CHECK.due("17: stage 0", 0, () -> x.known(1, 1));
        x.month(3);
        CHECK.due("17: to stage 1", 1, () -> x.dun(1));
        CHECK.due("17: stage 1", 1, () -> x.known(1, 1));
        x.dispute(1, true);
        CHECK.refused("17: disputed", Check.STATE, () -> x.dun(1));
        x.dispute(1, false);
        CHECK.due("17: to stage 2", 2, () -> x.dun(1));
        x.settle(1, 100);
        CHECK.refused("17: paid", Check.STATE, () -> x.dun(1));
        CHECK.due("17: the stage stays", 2, () -> x.known(1, 1));
        CHECK.due("17: no one is held", 0, () -> x.count(8));
    }

    private static void dunningHolds() {
        OwnerLedger x = ledger();
        x.invoice(1, 100, 0);
        x.invoice(1, 100, 0);
        x.month(1);
        x.dun(1);
        x.dun(1);
        CHECK.due("17: not held in stage 2", 0, () -> x.count(8));
        CHECK.due("17: to stage 3", 3, () -> x.dun(1));
        CHECK.due("17: one is held", 1, () -> x.count(8));
        CHECK.refused("17: its owner", Check.STATE, () -> x.hold(1, true));
        CHECK.refused("17: no invoices for them", Check.STATE, () -> x.invoice(1, 5, 0));
        CHECK.due("17: for others", 3, () -> x.invoice(0, 5, 0));
        CHECK.refused("17: in stage 3", Check.STATE, () -> x.dun(1));
        x.dun(2);
        x.dun(2);
        CHECK.due("17: an owner that is held", 3, () -> x.dun(2));
        CHECK.due("17: still one", 1, () -> x.count(8));
        x.hold(1, false);
        CHECK.due("17: free again", 4, () -> x.invoice(1, 5, 0));
    }

    private static void rates() {
        OwnerLedger x = ledger();
        x.invoice(0, 1200, 0);
        x.month(1);
        CHECK.due("18: 0 at first", 0, () -> x.interest(1, 0));
        CHECK.refusedStep("18: 101", Check.ARGUMENT, () -> x.rate(101));
        CHECK.refusedStep("18: -1", Check.ARGUMENT, () -> x.rate(-1));
        CHECK.passes("18: 100", () -> x.rate(100));
        CHECK.due("18: of 1200 for a month", 100, () -> x.interest(1, 0));
        CHECK.passes("18: 7", () -> x.rate(7));
        CHECK.refusedStep("18: a refusal", Check.ARGUMENT, () -> x.rate(1000));
        CHECK.due("18: leaves it", 7, () -> x.interest(1, 0));
        CHECK.passes("18: 0 again", () -> x.rate(0));
        CHECK.due("18: no interest", 0, () -> x.interest(1, 0));
        CHECK.due("18: over 1", 1, () -> x.interest(1, 1));
    }

    private static void fraction(String what, OwnerLedger x, int invoice, long upper, long lower) {
        CHECK.due("19: " + what + ", upper", upper, () -> x.interest(invoice, 0));
        CHECK.due("19: " + what + ", lower", lower, () -> x.interest(invoice, 1));
    }

    private static void interests() {
        OwnerLedger x = ledger();
        x.invoice(0, 1, 0);
        x.invoice(0, 7, 3);
        x.invoice(0, MOST, 0);
        x.invoice(0, 999999937, 0);
        x.rate(1);
        x.month(1);
        fraction("one cent", x, 1, 1, 1200);
        x.month(4);
        fraction("4 of 1200", x, 1, 1, 300);
        fraction("7 of 1200", x, 2, 7, 1200);
        x.rate(99);
        fraction("693 of 1200", x, 2, 231, 400);
        x.month(11);
        fraction("7 * 8 * 99 of 1200", x, 2, 231, 50);
        x.month(119);
        x.rate(97);
        fraction("a prime of cents", x, 4, 999999937L * 119 * 97, 1200);
        x.month(120);
        x.rate(100);
        fraction("the most", x, 3, 10 * MOST, 1);
        x.settle(3, MOST - 1);
        fraction("of what is open", x, 3, 10, 1);
        everyFraction();
    }

    /** Every fraction of small cents in lowest terms: no number above 1 divides both sides. */
    private static void everyFraction() {
        for (long open = 1; open <= 1200; open++) {
            OwnerLedger x = ledger();
            x.invoice(0, open, 0);
            x.month(1);
            x.rate(1);
            long common = 1200;
            while (open % common != 0 || 1200 % common != 0) {
                common--;
            }
            fraction(open + " of 1200", x, 1, open / common, 1200 / common);
        }
    }

    private static void interestOfNothing() {
        OwnerLedger x = ledger();
        x.invoice(0, 100, 2);
        x.rate(50);
        x.month(1);
        fraction("before it is due", x, 1, 0, 1);
        x.month(2);
        fraction("in the due month", x, 1, 0, 1);
        x.month(3);
        fraction("overdue", x, 1, 25, 6);
        x.dispute(1, true);
        fraction("disputed", x, 1, 0, 1);
        x.dispute(1, false);
        x.settle(1, 100);
        fraction("paid", x, 1, 0, 1);
        CHECK.refused("19: side 2", Check.ARGUMENT, () -> x.interest(1, 2));
        CHECK.refused("19: side -1", Check.ARGUMENT, () -> x.interest(1, -1));
        CHECK.refused("19: no invoice 2", Check.NO_SUCH, () -> x.interest(2, 0));
        CHECK.refused("19: the invoice before the side", Check.NO_SUCH, () -> x.interest(2, 2));
    }

    private static void holds() {
        OwnerLedger x = ledger();
        x.invoice(0, 100, 0);
        x.invoice(0, 100, 0);
        x.invoice(0, 100, 0);
        x.invoice(0, 100, 1);
        x.invoice(1, 100, 0);
        CHECK.refused("20: not held", Check.STATE, () -> x.hold(0, false));
        CHECK.due("20: none is overdue", 0, () -> x.hold(0, true));
        CHECK.refused("20: held", Check.STATE, () -> x.hold(0, true));
        CHECK.due("20: one is held", 1, () -> x.count(8));
        x.month(1);
        CHECK.due("20: three are overdue", 3, () -> x.hold(0, false));
        x.settle(2, 100);
        x.dispute(3, true);
        CHECK.due("20: one is, not the paid or disputed", 1, () -> x.hold(0, true));
        CHECK.due("20: another owner", 1, () -> x.hold(1, true));
        CHECK.due("20: two are held", 2, () -> x.count(8));
        CHECK.refused("20: no owner 2", Check.NO_SUCH, () -> x.hold(2, true));
        CHECK.refused("20: no owner -1", Check.NO_SUCH, () -> x.hold(-1, false));
    }

    private static void knowing() {
        OwnerLedger x = ledger();
        x.invoice(0, 5, 0);
        x.invoice(1, 100, 4);
        x.month(5);
        x.settle(2, 1);
        x.dun(2);
        CHECK.due("22: open cents", 99, () -> x.known(2, 0));
        CHECK.due("22: stage", 1, () -> x.known(2, 1));
        CHECK.due("22: disputed", 0, () -> x.known(2, 2));
        CHECK.due("22: overdue", 1, () -> x.known(2, 3));
        CHECK.due("22: owner", 1, () -> x.known(2, 4));
        CHECK.due("22: due month", 4, () -> x.known(2, 5));
        x.dispute(2, true);
        CHECK.due("22: disputed now", 1, () -> x.known(2, 2));
        CHECK.due("22: so not overdue", 0, () -> x.known(2, 3));
        CHECK.due("22: another invoice", 0, () -> x.known(1, 4));
        CHECK.due("22: is overdue", 1, () -> x.known(1, 3));
        CHECK.refused("22: what 6", Check.ARGUMENT, () -> x.known(1, 6));
        CHECK.refused("22: what -1", Check.ARGUMENT, () -> x.known(1, -1));
        CHECK.refused("22: no invoice 3", Check.NO_SUCH, () -> x.known(3, 0));
        CHECK.refused("22: no invoice 0", Check.NO_SUCH, () -> x.known(0, 0));
        CHECK.refused("22: the invoice before the what", Check.NO_SUCH, () -> x.known(3, 6));
    }

    private static void credits() {
        OwnerLedger x = ledger();
        CHECK.due("23: 0 at first", 0, () -> x.credit(0));
        x.pay(1, 12);
        CHECK.due("23: what was paid", 12, () -> x.credit(1));
        CHECK.due("23: by another", 0, () -> x.credit(0));
        CHECK.refused("23: no owner 2", Check.NO_SUCH, () -> x.credit(2));
        CHECK.refused("23: no owner -1", Check.NO_SUCH, () -> x.credit(-1));
        CHECK.refused("23: the most int", Check.NO_SUCH, () -> x.credit(Integer.MAX_VALUE));
    }

    private static void counts() {
        OwnerLedger x = ledger();
        x.owner();
        x.account(0, 0);
        x.account(1, 0);
        x.account(1, 1);
        x.account(2, 1);
        x.month(11);
        x.close(10);
        for (int i = 0; i < 5; i++) {
            x.batch(10);
        }
        x.row(1, 0, 5);
        x.row(1, 1, -5);
        x.post(1);
        x.reverse(1);
        x.row(2, 0, 5);
        x.post(2);
        for (int i = 0; i < 7; i++) {
            x.invoice(0, 10, 0);
        }
        x.settle(2, 10);
        x.settle(3, 9);
        x.dispute(4, true);
        x.hold(1, true);
        int[] want = {3, 4, 6, 2, 7, 6, 11, 10, 1};
        for (int what = 0; what < want.length; what++) {
            int asked = what;
            CHECK.due("24: count(" + what + ")", want[what], () -> x.count(asked));
        }
        CHECK.due("24: count(9)", -1, () -> x.count(9));
        CHECK.due("24: count(-1)", -1, () -> x.count(-1));
        CHECK.due("24: the most int", -1, () -> x.count(Integer.MAX_VALUE));
        CHECK.due("24: the least int", -1, () -> x.count(Integer.MIN_VALUE));
    }
}
