/** The sentences about edges in promises 7 to 12 and 21, and in the terms that they use. */
public final class PostingEdgesTest {
    private static final Edges EDGES = new Edges();
    private static final long MOST = Ledgers.MOST;

    public static void main(String[] args) {
        rowsCounted();
        mostRows();
        rowBatches();
        rowAccounts();
        rowCents();
        rowOfNoCents();
        rowOfBatchNotOpen();
        rowBreaksOrNot();
        breakingRows();
        breakingBatches();
        breaksOfBatchNotOpen();
        posted();
        brokenAtRow();
        brokenBySums();
        asItWasBefore();
        inMonthOfBatch();
        postedBatches();
        postNotOpen();
        postClosedByNow();
        postNoRows();
        reversed();
        reversedInMonthThatIs();
        reversedBatches();
        reverseNotPosted();
        reverseWasReversed();
        reverseReversal();
        reverseNoRoom();
        balanceAtEndOfMonth();
        balanceMonths();
        balanceAccounts();
        allAsTheyAre();
        allCurrencies();
        toldOfBatch();
        toldBatches();
        toldWhats();
        lookingChangesNothing();
        EDGES.end();
    }

    /** Two open batches of two rows each, and nothing else. */
    private static OwnerLedger twoBatches() {
        OwnerLedger x = new OwnerLedger();
        x.owner();
        x.account(0, 0);
        x.account(0, 0);
        Ledgers.pair(x, 0, 0, 5);
        Ledgers.pair(x, 0, 0, 6);
        return x;
    }

    private static void rowsCounted() {
        EDGES.sentence("promise 7", "A row of an open batch: how many it has");
        EDGES.answers("the first", 1, Ledgers::rich, x -> x.row(Ledgers.WITHOUT_ROWS, 0, 1));
        EDGES.answers("the third", 3, Ledgers::rich, x -> x.row(Ledgers.OPEN, 0, 1));
        EDGES.answers("of this batch alone", 0, Ledgers::rich, x -> {
            x.row(Ledgers.OPEN, 0, 1);
            return x.told(Ledgers.WITHOUT_ROWS, 2);
        });
        EDGES.answers("a row alone moves no cents", 0, Ledgers::rich, x -> {
            x.row(Ledgers.OPEN, 4, 1);
            return x.balance(4, 120);
        });
        EDGES.answers("an open batch of a month closed by now", 3, Ledgers::rich,
                x -> x.row(Ledgers.OF_CLOSED_MONTH, 0, 1));
        EDGES.answers("an account of a held owner", 3, Ledgers::rich, x -> x.row(Ledgers.OPEN, 5, 1));
    }

    private static void mostRows() {
        EDGES.sentence("Terms", "ROWS of it (at most 8)");
        Ledgers.Maker seven = Ledgers.after(Ledgers::rich, x -> {
            for (int row = 3; row <= 7; row++) {
                x.row(Ledgers.OPEN, 0, 1);
            }
        });
        EDGES.answers("the last place", 8, seven, x -> x.row(Ledgers.OPEN, 0, 1));
        EDGES.refuses("one more", Check.ROOM, Ledgers::fullOfRows, x -> x.row(Ledgers.OPEN, 0, 1));
        EDGES.refuses("one more of another account", Check.ROOM, Ledgers::fullOfRows,
                x -> x.row(Ledgers.OPEN, 5, -MOST));
        EDGES.answers("another batch has room", 1, Ledgers::fullOfRows, x -> x.row(Ledgers.WITHOUT_ROWS, 0, 1));
        EDGES.answers("eight are posted", 1, Ledgers::fullOfRows, x -> x.post(Ledgers.OPEN));
        EDGES.answers("eight of the most cents", 4 * MOST, Ledgers::rich, x -> {
            for (int row = 1; row <= 8; row++) {
                x.row(Ledgers.WITHOUT_ROWS, row % 2, row % 2 == 0 ? MOST : -MOST);
            }
            x.post(Ledgers.WITHOUT_ROWS);
            return x.balance(0, Ledgers.MONTH);
        });
    }

    private static void rowBatches() {
        EDGES.sentence("promise 7", "NoSuchElementException: a batch that there is not");
        EDGES.range(Check.NO_SUCH, 1, 2, PostingEdgesTest::twoBatches, (x, batch) -> x.row(batch, 0, 1));
        EDGES.refuses("31 of 30", Check.NO_SUCH, Ledgers::fullOfBatches, x -> x.row(31, 0, 1));
        EDGES.answers("30 of 30", 1, Ledgers::fullOfBatches, x -> x.row(30, 0, 1));
    }

    private static void rowAccounts() {
        EDGES.sentence("promise 7", "NoSuchElementException: an account that there is not");
        EDGES.range(Check.NO_SUCH, 0, Ledgers.ACCOUNTS - 1, Ledgers::rich,
                (x, account) -> x.row(Ledgers.OPEN, account, 1));
        EDGES.range(Check.NO_SUCH, 0, 19, Ledgers::fullOfAccounts, (x, account) -> x.row(Ledgers.OPEN, account, 1));
    }

    private static void rowCents() {
        EDGES.sentence("Terms", "an account and cents (-1000000000 .. 1000000000)");
        EDGES.rangeOfCents(-MOST, MOST, Ledgers::rich, (x, cents) -> x.row(Ledgers.OPEN, 0, cents));
    }

    private static void rowOfNoCents() {
        EDGES.sentence("Terms", "an account and cents (not 0)");
        EDGES.refuses("0", Check.ARGUMENT, Ledgers::rich, x -> x.row(Ledgers.OPEN, 0, 0));
        EDGES.refuses("0 for the first row", Check.ARGUMENT, Ledgers::rich, x -> x.row(Ledgers.WITHOUT_ROWS, 0, 0));
        EDGES.answers("1", 3, Ledgers::rich, x -> x.row(Ledgers.OPEN, 0, 1));
        EDGES.answers("-1", 3, Ledgers::rich, x -> x.row(Ledgers.OPEN, 0, -1));
    }

    private static void rowOfBatchNotOpen() {
        EDGES.sentence("promise 7", "IllegalStateException: it is not OPEN");
        EDGES.refuses("POSTED", Check.STATE, Ledgers::rich, x -> x.row(Ledgers.POSTED, 0, 1));
        EDGES.refuses("FAILED", Check.STATE, Ledgers::rich, x -> x.row(Ledgers.FAILED, 0, 1));
        EDGES.refuses("reversed", Check.STATE, Ledgers::rich, x -> x.row(Ledgers.REVERSED, 0, 1));
        EDGES.refuses("a reversal", Check.STATE, Ledgers::rich, x -> x.row(Ledgers.REVERSAL, 0, 1));
    }

    private static long breaks(OwnerLedger x, int batch, int row, boolean on) {
        x.breaks(batch, row, on);
        return 1;
    }

    private static void rowBreaksOrNot() {
        EDGES.sentence("promise 8", "Row i of an open batch breaks when it is posted, or not");
        EDGES.answers("row 0 breaks", -1, Ledgers::rich, x -> {
            x.breaks(Ledgers.OPEN, 0, true);
            return x.post(Ledgers.OPEN);
        });
        EDGES.answers("not any more", 1, Ledgers::rich, x -> {
            x.breaks(Ledgers.BREAKING, 1, false);
            return x.post(Ledgers.BREAKING);
        });
        EDGES.answers("this row alone", -2, Ledgers::rich, x -> {
            x.breaks(Ledgers.BREAKING, 0, false);
            return x.post(Ledgers.BREAKING);
        });
        EDGES.answers("this batch alone", 1, Ledgers::rich, x -> {
            x.breaks(Ledgers.BREAKING, 0, true);
            return x.post(Ledgers.OPEN);
        });
        EDGES.changesNothing("a row that breaks already", Ledgers::rich, x -> breaks(x, Ledgers.BREAKING, 1, true));
        EDGES.changesNothing("a row that does not break", Ledgers::rich, x -> breaks(x, Ledgers.OPEN, 1, false));
        EDGES.answers("in a month closed by now", 1, Ledgers::rich,
                x -> breaks(x, Ledgers.OF_CLOSED_MONTH, 0, true));
    }

    private static void breakingRows() {
        EDGES.sentence("promise 8", "NoSuchElementException: a row that there is not");
        EDGES.range(Check.NO_SUCH, 0, 1, Ledgers::rich, (x, row) -> breaks(x, Ledgers.OPEN, row, true));
        EDGES.range(Check.NO_SUCH, 0, 7, Ledgers::fullOfRows, (x, row) -> breaks(x, Ledgers.OPEN, row, true));
        EDGES.refuses("row 0 of none", Check.NO_SUCH, Ledgers::rich, x -> breaks(x, Ledgers.WITHOUT_ROWS, 0, true));
        EDGES.refuses("row 2 of two, off", Check.NO_SUCH, Ledgers::rich, x -> breaks(x, Ledgers.OPEN, 2, false));
    }

    private static void breakingBatches() {
        EDGES.sentence("promise 8", "NoSuchElementException: a batch that there is not");
        EDGES.range(Check.NO_SUCH, 1, 2, PostingEdgesTest::twoBatches, (x, batch) -> breaks(x, batch, 0, true));
        EDGES.refuses("31 of 30", Check.NO_SUCH, Ledgers::fullOfBatches, x -> breaks(x, 31, 0, true));
    }

    private static void breaksOfBatchNotOpen() {
        EDGES.sentence("promise 8", "IllegalStateException: the batch is not OPEN");
        for (boolean on : new boolean[] {true, false}) {
            EDGES.refuses("POSTED, " + on, Check.STATE, Ledgers::rich, x -> breaks(x, Ledgers.POSTED, 0, on));
            EDGES.refuses("FAILED, " + on, Check.STATE, Ledgers::rich, x -> breaks(x, Ledgers.FAILED, 0, on));
            EDGES.refuses("reversed, " + on, Check.STATE, Ledgers::rich, x -> breaks(x, Ledgers.REVERSED, 1, on));
            EDGES.refuses("a reversal, " + on, Check.STATE, Ledgers::rich, x -> breaks(x, Ledgers.REVERSAL, 1, on));
        }
    }

    private static void posted() {
        EDGES.sentence("promise 9", "A batch is posted: 1 POSTED");
        EDGES.answers("it answers", 1, Ledgers::rich, x -> x.post(Ledgers.OPEN));
        EDGES.answers("its state", 1, Ledgers::rich, x -> {
            x.post(Ledgers.OPEN);
            return x.told(Ledgers.OPEN, 0);
        });
        EDGES.answers("each row is added", 90, Ledgers::rich, x -> {
            x.post(Ledgers.OPEN);
            return x.balance(4, Ledgers.MONTH);
        });
        EDGES.answers("the last row too", -90, Ledgers::rich, x -> {
            x.post(Ledgers.OPEN);
            return x.balance(5, Ledgers.MONTH);
        });
        EDGES.answers("one more is posted", 4, Ledgers::rich, x -> {
            x.post(Ledgers.OPEN);
            return x.count(3);
        });
    }

    /** Eight rows whose sum is 0, of which some break. */
    private static int postBreaking(OwnerLedger x, int... rows) {
        for (int row = 0; row < 8; row++) {
            x.row(Ledgers.WITHOUT_ROWS, row % 2, row % 2 == 0 ? 3 : -3);
        }
        for (int row : rows) {
            x.breaks(Ledgers.WITHOUT_ROWS, row, true);
        }
        return x.post(Ledgers.WITHOUT_ROWS);
    }

    private static void brokenAtRow() {
        EDGES.sentence("promise 9", "-1 less the row at which it broke: FAILED");
        for (int row = 0; row < 8; row++) {
            int broken = row;
            EDGES.answers("row " + row, -1 - row, Ledgers::rich, x -> postBreaking(x, broken));
        }
        EDGES.answers("the first of two", -4, Ledgers::rich, x -> postBreaking(x, 6, 3));
        EDGES.answers("the state", 2, Ledgers::rich, x -> {
            postBreaking(x, 7);
            return x.told(Ledgers.WITHOUT_ROWS, 0);
        });
        EDGES.answers("a row counts before the sums", -2, Ledgers::rich, x -> {
            x.row(Ledgers.BREAKING, 0, 1);
            return x.post(Ledgers.BREAKING);
        });
        EDGES.answers("the last row counts before the sums", -8, Ledgers::rich, x -> {
            for (int row = 0; row < 8; row++) {
                x.row(Ledgers.WITHOUT_ROWS, 0, 1);
            }
            x.breaks(Ledgers.WITHOUT_ROWS, 7, true);
            return x.post(Ledgers.WITHOUT_ROWS);
        });
    }

    private static void brokenBySums() {
        EDGES.sentence("promise 9", "-9 if the sums are not 0: FAILED");
        for (int account = 0; account < 6; account += 2) {
            int uneven = account;
            EDGES.answers("one cent above in currency " + account / 2, -9, Ledgers::rich, x -> {
                x.row(Ledgers.OPEN, uneven, 1);
                return x.post(Ledgers.OPEN);
            });
            EDGES.answers("one cent below in currency " + account / 2, -9, Ledgers::rich, x -> {
                x.row(Ledgers.OPEN, uneven, -1);
                return x.post(Ledgers.OPEN);
            });
        }
        EDGES.answers("one row", -9, Ledgers::rich, x -> {
            x.row(Ledgers.WITHOUT_ROWS, 0, -MOST);
            return x.post(Ledgers.WITHOUT_ROWS);
        });
        EDGES.answers("0 over two currencies only", -9, Ledgers::rich, x -> {
            x.row(Ledgers.WITHOUT_ROWS, 0, 5);
            x.row(Ledgers.WITHOUT_ROWS, 2, -5);
            return x.post(Ledgers.WITHOUT_ROWS);
        });
        EDGES.answers("0 in each currency", 1, Ledgers::rich, x -> {
            x.row(Ledgers.OPEN, 0, 7);
            x.row(Ledgers.OPEN, 2, 8);
            x.row(Ledgers.OPEN, 0, -7);
            x.row(Ledgers.OPEN, 2, -8);
            return x.post(Ledgers.OPEN);
        });
        EDGES.answers("the state", 2, Ledgers::rich, x -> {
            x.row(Ledgers.OPEN, 0, 1);
            x.post(Ledgers.OPEN);
            return x.told(Ledgers.OPEN, 0);
        });
    }

    private static void asItWasBefore() {
        EDGES.sentence("Terms", "then all is as it was before, and the batch has FAILED");
        for (int account = 0; account < 2; account++) {
            int asked = account;
            EDGES.answers("balance of account " + account, 0, Ledgers::rich, x -> {
                x.post(Ledgers.BREAKING);
                return x.balance(asked, 120);
            });
            EDGES.answers("balance behind uneven sums of account " + account, 0, Ledgers::rich, x -> {
                x.row(Ledgers.WITHOUT_ROWS, asked, 1);
                x.post(Ledgers.WITHOUT_ROWS);
                return x.balance(asked, 120);
            });
        }
        EDGES.answers("all of the currency", 0, Ledgers::rich, x -> {
            x.row(Ledgers.WITHOUT_ROWS, 0, 1);
            x.post(Ledgers.WITHOUT_ROWS);
            return x.all(0);
        });
        EDGES.answers("as many are posted", 3, Ledgers::rich, x -> {
            x.post(Ledgers.BREAKING);
            return x.count(3);
        });
        EDGES.answers("its rows are its own still", 2, Ledgers::rich, x -> {
            x.post(Ledgers.BREAKING);
            return x.told(Ledgers.BREAKING, 2);
        });
    }

    private static void inMonthOfBatch() {
        EDGES.sentence("Terms", "Otherwise it is POSTED in the month of the batch");
        Ledgers.Maker later = Ledgers.after(Ledgers::rich, x -> {
            x.month(120);
            x.post(Ledgers.OPEN);
        });
        EDGES.answers("that month", 90, later, x -> x.balance(4, Ledgers.MONTH));
        EDGES.answers("the one before", 0, later, x -> x.balance(4, Ledgers.MONTH - 1));
        EDGES.answers("it keeps its month", Ledgers.MONTH, later, x -> x.told(Ledgers.OPEN, 1));
    }

    private static void postedBatches() {
        EDGES.sentence("promise 9", "NoSuchElementException: a batch that there is not");
        EDGES.range(Check.NO_SUCH, 1, 2, PostingEdgesTest::twoBatches, (x, batch) -> x.post(batch));
        EDGES.refuses("31 of 30", Check.NO_SUCH, Ledgers::fullOfBatches, x -> x.post(31));
    }

    private static void postNotOpen() {
        EDGES.sentence("promise 9", "IllegalStateException: it is not OPEN");
        EDGES.refuses("POSTED", Check.STATE, Ledgers::rich, x -> x.post(Ledgers.POSTED));
        EDGES.refuses("FAILED", Check.STATE, Ledgers::rich, x -> x.post(Ledgers.FAILED));
        EDGES.refuses("reversed", Check.STATE, Ledgers::rich, x -> x.post(Ledgers.REVERSED));
        EDGES.refuses("a reversal", Check.STATE, Ledgers::rich, x -> x.post(Ledgers.REVERSAL));
        EDGES.refuses("FAILED at a row", Check.STATE, Ledgers.after(Ledgers::rich, x -> x.post(Ledgers.BREAKING)),
                x -> x.post(Ledgers.BREAKING));
    }

    private static void postClosedByNow() {
        EDGES.sentence("promise 9", "IllegalStateException: its month is closed by now");
        EDGES.refuses("the last month closed", Check.STATE, Ledgers::rich, x -> x.post(Ledgers.OF_CLOSED_MONTH));
        EDGES.refuses("a row that breaks does not count then", Check.STATE,
                Ledgers.after(Ledgers::rich, x -> x.breaks(Ledgers.OF_CLOSED_MONTH, 0, true)),
                x -> x.post(Ledgers.OF_CLOSED_MONTH));
        EDGES.refuses("nor do uneven sums", Check.STATE,
                Ledgers.after(Ledgers::rich, x -> x.row(Ledgers.OF_CLOSED_MONTH, 0, 1)),
                x -> x.post(Ledgers.OF_CLOSED_MONTH));
        Ledgers.Maker mended = Ledgers.after(Ledgers::rich, x -> x.breaks(Ledgers.BREAKING, 1, false));
        EDGES.answers("the first month that is not closed", 1, mended, x -> x.post(Ledgers.BREAKING));
        EDGES.refuses("the same one when it is closed", Check.STATE,
                Ledgers.after(mended, x -> x.close(Ledgers.CLOSED + 1)), x -> x.post(Ledgers.BREAKING));
    }

    private static void postNoRows() {
        EDGES.sentence("promise 9", "IllegalStateException: or it has no rows");
        EDGES.refuses("none", Check.STATE, Ledgers::rich, x -> x.post(Ledgers.WITHOUT_ROWS));
        EDGES.answers("two, behind the refusal", 1, Ledgers::rich, x -> {
            Check.answerOf(() -> x.post(Ledgers.WITHOUT_ROWS));
            x.row(Ledgers.WITHOUT_ROWS, 0, 1);
            x.row(Ledgers.WITHOUT_ROWS, 1, -1);
            return x.post(Ledgers.WITHOUT_ROWS);
        });
    }

    private static void reversed() {
        EDGES.sentence("promise 10", "A batch with the rows of a posted one, each with the other sign, is POSTED");
        Ledgers.Maker reversed = Ledgers.after(Ledgers::rich, x -> x.reverse(Ledgers.POSTED));
        EDGES.answers("its number", Ledgers.BATCHES + 1, Ledgers::rich, x -> x.reverse(Ledgers.POSTED));
        EDGES.answers("POSTED", 1, reversed, x -> x.told(Ledgers.BATCHES + 1, 0));
        EDGES.answers("as many rows", 2, reversed, x -> x.told(Ledgers.BATCHES + 1, 2));
        EDGES.answers("the first row", 0, reversed, x -> x.balance(2, 120));
        EDGES.answers("the last row", 0, reversed, x -> x.balance(3, 120));
        EDGES.answers("the posted one stays POSTED", 1, reversed, x -> x.told(Ledgers.POSTED, 0));
        EDGES.answers("one more is posted", 4, reversed, x -> x.count(3));
        Ledgers.Maker most = Ledgers.after(Ledgers::rich, x -> {
            x.post(Ledgers.pair(x, Ledgers.MONTH, 4, -MOST));
            x.month(11);
        });
        EDGES.answers("the least cents", -MOST, most, x -> x.balance(4, 120));
        EDGES.answers("the least cents with the other sign", 0, most, x -> {
            x.reverse(Ledgers.BATCHES + 1);
            return x.balance(4, 120);
        });
        EDGES.answers("eight rows", 8, Ledgers::fullOfRows, x -> {
            x.post(Ledgers.OPEN);
            return x.told(x.reverse(Ledgers.OPEN), 2);
        });
        EDGES.answers("the eighth row", 0, Ledgers::fullOfRows, x -> {
            x.post(Ledgers.OPEN);
            x.reverse(Ledgers.OPEN);
            return x.balance(0, 120);
        });
    }

    private static void reversedInMonthThatIs() {
        EDGES.sentence("promise 10", "for the month that is");
        Ledgers.Maker reversed = Ledgers.after(Ledgers::rich, x -> {
            x.month(11);
            x.close(11);
            x.reverse(Ledgers.POSTED);
        });
        EDGES.answers("the month", 11, reversed, x -> x.told(Ledgers.BATCHES + 1, 1));
        EDGES.answers("the balance before", 70, reversed, x -> x.balance(2, 10));
        EDGES.answers("the balance then", 0, reversed, x -> x.balance(2, 11));
        EDGES.answers("month 120", 120, Ledgers::rich, x -> {
            x.month(120);
            return x.told(x.reverse(Ledgers.POSTED), 1);
        });
    }

    private static void reversedBatches() {
        EDGES.sentence("promise 10", "NoSuchElementException: a batch that there is not");
        Ledgers.Maker two = Ledgers.after(PostingEdgesTest::twoBatches, x -> {
            x.post(1);
            x.post(2);
        });
        EDGES.range(Check.NO_SUCH, 1, 2, two, (x, batch) -> x.reverse(batch));
    }

    private static void reverseNotPosted() {
        EDGES.sentence("promise 10", "IllegalStateException: that one is not POSTED");
        EDGES.refuses("OPEN", Check.STATE, Ledgers::rich, x -> x.reverse(Ledgers.OPEN));
        EDGES.refuses("OPEN without rows", Check.STATE, Ledgers::rich, x -> x.reverse(Ledgers.WITHOUT_ROWS));
        EDGES.refuses("OPEN in a closed month", Check.STATE, Ledgers::rich,
                x -> x.reverse(Ledgers.OF_CLOSED_MONTH));
        EDGES.refuses("FAILED", Check.STATE, Ledgers::rich, x -> x.reverse(Ledgers.FAILED));
    }

    private static void reverseWasReversed() {
        EDGES.sentence("promise 10", "IllegalStateException: was reversed");
        EDGES.refuses("in the same month", Check.STATE, Ledgers::rich, x -> x.reverse(Ledgers.REVERSED));
        EDGES.refuses("in a later one", Check.STATE, Ledgers.after(Ledgers::rich, x -> x.month(120)),
                x -> x.reverse(Ledgers.REVERSED));
        EDGES.answers("another batch was not", Ledgers.BATCHES + 1, Ledgers::rich,
                x -> x.reverse(Ledgers.POSTED));
    }

    private static void reverseReversal() {
        EDGES.sentence("promise 10", "IllegalStateException: or is a reversal");
        EDGES.refuses("in the same month", Check.STATE, Ledgers::rich, x -> x.reverse(Ledgers.REVERSAL));
        EDGES.refuses("in a later one", Check.STATE, Ledgers.after(Ledgers::rich, x -> x.month(120)),
                x -> x.reverse(Ledgers.REVERSAL));
    }

    private static void reverseNoRoom() {
        EDGES.sentence("promise 10", "UnsupportedOperationException: no room");
        EDGES.refuses("behind thirty", Check.ROOM, Ledgers::fullOfBatches, x -> x.reverse(Ledgers.POSTED));
        EDGES.refuses("behind thirty, another month", Check.ROOM,
                Ledgers.after(Ledgers::fullOfBatches, x -> x.month(11)), x -> x.reverse(Ledgers.POSTED));
    }

    private static void balanceAtEndOfMonth() {
        EDGES.sentence("promise 11", "rows of batches posted for that one and those before");
        Ledgers.Maker edges = Ledgers.after(OwnerLedger::new, x -> {
            x.owner();
            x.account(0, 0);
            x.account(0, 0);
            x.month(120);
            x.post(Ledgers.pair(x, 120, 0, 400));
            x.post(Ledgers.pair(x, 60, 0, 30));
            x.post(Ledgers.pair(x, 0, 0, 2));
        });
        EDGES.answers("month 0", 2, edges, x -> x.balance(0, 0));
        EDGES.answers("the month before", 2, edges, x -> x.balance(0, 59));
        EDGES.answers("the month itself", 32, edges, x -> x.balance(0, 60));
        EDGES.answers("the month behind", 32, edges, x -> x.balance(0, 61));
        EDGES.answers("month 119", 32, edges, x -> x.balance(0, 119));
        EDGES.answers("month 120", 432, edges, x -> x.balance(0, 120));
        EDGES.answers("the other account", -432, edges, x -> x.balance(1, 120));
        EDGES.answers("open batches do not count", 0, Ledgers::rich, x -> x.balance(4, 120));
        EDGES.answers("months before the reversal", 40, Ledgers::rich, x -> x.balance(0, Ledgers.MONTH - 1));
    }

    private static void balanceMonths() {
        EDGES.sentence("promise 11", "a month (0 .. 120)");
        EDGES.range(Check.ARGUMENT, 0, 120, Ledgers::rich, (x, month) -> x.balance(2, month));
        EDGES.range(Check.ARGUMENT, 0, 120, Ledgers.after(OwnerLedger::new, x -> {
            x.owner();
            x.account(0, 0);
        }), (x, month) -> x.balance(0, month));
    }

    private static void balanceAccounts() {
        EDGES.sentence("promise 11", "NoSuchElementException: an account that there is not");
        EDGES.range(Check.NO_SUCH, 0, Ledgers.ACCOUNTS - 1, Ledgers::rich, (x, account) -> x.balance(account, 0));
        EDGES.range(Check.NO_SUCH, 0, 19, Ledgers::fullOfAccounts, (x, account) -> x.balance(account, 0));
    }

    private static void allAsTheyAre() {
        EDGES.sentence("promise 12", "The sum of all accounts of a currency, as they are");
        for (int currency = 0; currency <= 2; currency++) {
            int asked = currency;
            EDGES.answers("currency " + currency, 0, Ledgers::rich, x -> x.all(asked));
            EDGES.answers("currency " + currency + " with more posted", 0, Ledgers::rich, x -> {
                x.post(Ledgers.OPEN);
                x.post(Ledgers.pair(x, Ledgers.MONTH, asked * 2, MOST));
                return x.all(asked);
            });
            EDGES.answers("currency " + currency + " behind a batch that failed", 0, Ledgers::rich, x -> {
                x.row(Ledgers.WITHOUT_ROWS, asked * 2, 1);
                x.post(Ledgers.WITHOUT_ROWS);
                return x.all(asked);
            });
        }
    }

    private static void allCurrencies() {
        EDGES.sentence("promise 12", "IllegalArgumentException");
        EDGES.range(Check.ARGUMENT, 0, 2, Ledgers::rich, (x, currency) -> x.all(currency));
        EDGES.range(Check.ARGUMENT, 0, 2, OwnerLedger::new, (x, currency) -> x.all(currency));
    }

    private static void told(String detail, int batch, int... want) {
        for (int what = 0; what < want.length; what++) {
            int asked = what;
            EDGES.answers(detail + ", what " + what, want[what], Ledgers::rich, x -> x.told(batch, asked));
        }
    }

    private static void toldOfBatch() {
        EDGES.sentence("promise 21", "0 its state, 1 month, 2 rows, 3 the batch that reverses it, 4 that which ..");
        told("reversed", Ledgers.REVERSED, 1, Ledgers.CLOSED, 2, Ledgers.REVERSAL, 0);
        told("of a closed month", Ledgers.OF_CLOSED_MONTH, 0, Ledgers.CLOSED - 1, 2, 0, 0);
        told("POSTED", Ledgers.POSTED, 1, 6, 2, 0, 0);
        told("FAILED", Ledgers.FAILED, 2, Ledgers.MONTH, 1, 0, 0);
        told("OPEN", Ledgers.OPEN, 0, Ledgers.MONTH, 2, 0, 0);
        told("without rows", Ledgers.WITHOUT_ROWS, 0, Ledgers.MONTH, 0, 0, 0);
        told("a reversal", Ledgers.REVERSAL, 1, Ledgers.MONTH, 2, 0, Ledgers.REVERSED);
    }

    private static void toldBatches() {
        EDGES.sentence("promise 21", "NoSuchElementException");
        EDGES.range(Check.NO_SUCH, 1, Ledgers.BATCHES, Ledgers::rich, (x, batch) -> x.told(batch, 0));
        EDGES.range(Check.NO_SUCH, 1, 30, Ledgers::fullOfBatches, (x, batch) -> x.told(batch, 0));
    }

    private static void toldWhats() {
        EDGES.sentence("promise 21", "IllegalArgumentException");
        EDGES.range(Check.ARGUMENT, 0, 4, Ledgers::rich, (x, what) -> x.told(Ledgers.POSTED, what));
    }

    private static void lookingChangesNothing() {
        EDGES.sentence("promises 11, 12, 21", "balance, all and told only look");
        EDGES.changesNothing("balance", Ledgers::rich, x -> x.balance(0, 120));
        EDGES.changesNothing("all", Ledgers::rich, x -> x.all(0));
        EDGES.changesNothing("told", Ledgers::rich, x -> x.told(Ledgers.OPEN, 0));
    }
}
