import java.util.NoSuchElementException;

/** The examples of README.md, with the answers that it tells. */
public final class ReadmeTest {
    private static final Check CHECK = new Check();

    public static void main(String[] args) {
        use();
        refusal();
        CHECK.end();
    }

    private static void use() {
        OwnerLedger ledger = new OwnerLedger();
        int tenant = ledger.owner();
        answers("tenant", 0, tenant);
        int bank = ledger.account(tenant, 0);
        answers("bank", 0, bank);
        int rent = ledger.account(tenant, 0);
        answers("rent", 1, rent);

        int batch = ledger.batch(0);
        answers("batch", 1, batch);
        answers("row of the bank", 1, ledger.row(batch, bank, -500));
        answers("row of the rent", 2, ledger.row(batch, rent, 500));
        answers("post", 1, ledger.post(batch));
        answers("balance", 500, ledger.balance(rent, 0));

        int invoice = ledger.invoice(tenant, 1000, 1);
        answers("invoice", 1, invoice);
        answers("pay", 0, ledger.pay(tenant, 100));
        ledger.rate(12);
        ledger.month(3);
        answers("interest, upper", 18, ledger.interest(invoice, 0));
        answers("interest, lower", 1, ledger.interest(invoice, 1));
    }

    private static void refusal() {
        OwnerLedger ledger = new OwnerLedger();
        boolean refused = false;
        try {
            ledger.account(7, 9);
        } catch (NoSuchElementException e) {
            refused = true;
        }
        CHECK.same("account(7, 9) is refused for its owner", "true", String.valueOf(refused));
        answers("accounts after the refusal", 0, ledger.count(1));
    }

    private static void answers(String what, long want, long got) {
        CHECK.same(what, String.valueOf(want), String.valueOf(got));
    }
}
