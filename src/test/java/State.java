import java.util.ArrayList;
import java.util.List;

/** All that calls can tell of an object, so that two of them can be compared. */
final class State {
    private interface Look {
        void at(OwnerLedger x, State seen);
    }

    /** Each look takes a new object: one object answers for 512 calls only. */
    private static final List<Look> LOOKS = List.of(
            (x, seen) -> seen.counts(x), (x, seen) -> seen.batches(x), (x, seen) -> seen.invoices(x),
            (x, seen) -> seen.rows(x), (x, seen) -> seen.next(x), (x, seen) -> seen.rate(x));

    private final List<String> answers = new ArrayList<>();

    private State() {
    }

    /** The first answer that tells an object behind some call from one without it, or "none". */
    static String changeBy(Check.Use use, Ledgers.Maker maker) {
        List<String> without = behind(maker, x -> 0);
        List<String> with = behind(maker, use);
        for (int i = 0; i < without.size() && i < with.size(); i++) {
            if (!without.get(i).equals(with.get(i))) {
                return with.get(i) + " and not " + without.get(i);
            }
        }
        return without.size() == with.size() ? "none" : "there is more to tell, or less";
    }

    private static List<String> behind(Ledgers.Maker maker, Check.Use use) {
        State seen = new State();
        for (Look look : LOOKS) {
            look.at(used(maker, use), seen);
        }
        int accounts = used(maker, use).count(1);
        for (int account = 0; account < accounts; account++) {
            seen.balances(used(maker, use), account);
        }
        return seen.answers;
    }

    private static OwnerLedger used(Ledgers.Maker maker, Check.Use use) {
        OwnerLedger x = maker.make();
        Check.answerOf(() -> use.on(x));
        return x;
    }

    private void add(String name, Check.Call call) {
        answers.add(name + "=" + Check.answerOf(call));
    }

    private void counts(OwnerLedger x) {
        for (int what = 0; what <= 8; what++) {
            int asked = what;
            add("count" + what, () -> x.count(asked));
        }
        for (int currency = 0; currency <= 2; currency++) {
            int asked = currency;
            add("all" + currency, () -> x.all(asked));
        }
        int owners = x.count(0);
        for (int owner = 0; owner < owners; owner++) {
            int asked = owner;
            add("credit" + owner, () -> x.credit(asked));
            add("held" + owner, () -> x.hold(asked, true));
        }
    }

    private void batches(OwnerLedger x) {
        int batches = x.count(2);
        for (int batch = 1; batch <= batches; batch++) {
            for (int what = 0; what <= 4; what++) {
                int number = batch;
                int asked = what;
                add("told" + batch + "." + what, () -> x.told(number, asked));
            }
        }
    }

    private void invoices(OwnerLedger x) {
        int invoices = x.count(4);
        for (int invoice = 1; invoice <= invoices; invoice++) {
            int number = invoice;
            for (int what = 0; what <= 5; what++) {
                int asked = what;
                add("known" + invoice + "." + what, () -> x.known(number, asked));
            }
            add("interest" + invoice + ".0", () -> x.interest(number, 0));
            add("interest" + invoice + ".1", () -> x.interest(number, 1));
        }
    }

    private void balances(OwnerLedger x, int account) {
        for (int month = 0; month <= 120; month++) {
            int asked = month;
            add("balance" + account + "." + month, () -> x.balance(account, asked));
        }
    }

    /** Which rows an open batch has, and which of them break, shows when it is posted. */
    private void rows(OwnerLedger x) {
        int batches = x.count(2);
        int accounts = x.count(1);
        for (int batch = 1; batch <= batches; batch++) {
            int number = batch;
            add("post" + batch, () -> x.post(number));
        }
        for (int account = 0; account < accounts; account++) {
            int asked = account;
            add("posted" + account, () -> x.balance(asked, 120));
        }
    }

    private void next(OwnerLedger x) {
        add("owner", () -> x.owner());
        add("account", () -> x.account(0, 0));
        add("batch", () -> x.batch(x.count(6)));
        add("invoice", () -> x.invoice(0, 1, 0));
    }

    /** The rate shows only in the interest of an invoice that is overdue. */
    private void rate(OwnerLedger x) {
        x.month(120);
        add("owner for the rate", () -> x.owner());
        add("invoice for the rate", () -> x.invoice(0, 1200, 119));
        int last = x.count(4);
        add("rate", () -> x.interest(last, 0));
    }
}
