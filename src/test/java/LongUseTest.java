/** The sentences about how long and how large: 512 calls of one object, cents of 64 bits. */
public final class LongUseTest {
    private static final Edges EDGES = new Edges();
    private static final int CALLS = 512;
    private static final long MOST = Ledgers.MOST;

    public static void main(String[] args) {
        lastCallAnswers();
        refusalsFillNothing();
        creditOfManyPayments();
        balancesOfAllRows();
        EDGES.end();
    }

    private static void lastCallAnswers() {
        EDGES.sentence("What it is", "An object is used for at most 512 calls after it has been made");
        EDGES.answers("months", 120, OwnerLedger::new, x -> {
            for (int call = 1; call < CALLS; call++) {
                x.month(Math.min(call, 120));
            }
            return x.count(6);
        });
        EDGES.answers("disputes", 300, Ledgers.after(OwnerLedger::new, x -> {
            x.owner();
            x.invoice(0, 300, 0);
        }), x -> {
            for (int call = 3; call < CALLS; call++) {
                x.dispute(1, call % 2 == 1);
            }
            return x.dispute(1, false);
        });
    }

    private static void refusalsFillNothing() {
        EDGES.sentence("Terms", "REFUSALS: a refused call takes no place, however often it comes");
        EDGES.answers("owners", 6, Ledgers::fullOfOwners, x -> {
            for (int call = 0; call < 300; call++) {
                Check.answerOf(x::owner);
            }
            return x.count(0);
        });
        EDGES.answers("accounts", Ledgers.ACCOUNTS, Ledgers::rich, x -> {
            for (int call = 0; call < 300; call++) {
                Check.answerOf(() -> x.account(0, 3));
            }
            return x.account(0, 2);
        });
        EDGES.answers("batches", Ledgers.BATCHES + 1, Ledgers::rich, x -> {
            for (int call = 0; call < 300; call++) {
                Check.answerOf(() -> x.batch(Ledgers.CLOSED - 1));
            }
            return x.batch(Ledgers.MONTH);
        });
        EDGES.answers("rows", 3, Ledgers::rich, x -> {
            for (int call = 0; call < 300; call++) {
                Check.answerOf(() -> x.row(Ledgers.OPEN, 0, 0));
            }
            return x.row(Ledgers.OPEN, 0, 1);
        });
        EDGES.answers("invoices", Ledgers.INVOICES + 1, Ledgers::rich, x -> {
            for (int call = 0; call < 300; call++) {
                Check.answerOf(() -> x.invoice(Ledgers.HELD, 1, 0));
            }
            return x.invoice(Ledgers.FREE, 1, 0);
        });
    }

    private static void creditOfManyPayments() {
        EDGES.sentence("Terms", "CENTS are whole numbers of 64 bits: credit");
        Ledgers.Maker paid = Ledgers.after(OwnerLedger::new, x -> {
            x.owner();
            for (int call = 0; call < 500; call++) {
                x.pay(0, MOST);
            }
        });
        EDGES.answers("five hundred of the most", 500 * MOST, paid, x -> x.credit(0));
        EDGES.answers("and it pays the most", 499 * MOST, paid, x -> {
            x.invoice(0, MOST, 0);
            return x.credit(0);
        });
    }

    private static void balancesOfAllRows() {
        EDGES.sentence("Terms", "CENTS are whole numbers of 64 bits: balances");
        Ledgers.Maker full = Ledgers.after(OwnerLedger::new, x -> {
            x.owner();
            x.account(0, 2);
            x.account(0, 2);
            for (int batch = 1; batch <= 30; batch++) {
                x.batch(0);
                for (int row = 0; row < 8; row++) {
                    x.row(batch, row % 2, row % 2 == 0 ? MOST : -MOST);
                }
                x.post(batch);
            }
        });
        EDGES.answers("the most", 120 * MOST, full, x -> x.balance(0, 0));
        EDGES.answers("the least", -120 * MOST, full, x -> x.balance(1, 120));
        EDGES.answers("all", 0, full, x -> x.all(2));
    }
}
