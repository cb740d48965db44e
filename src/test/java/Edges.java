/**
 * Holds the document's sentences about edges against the class, sentence by sentence. A refused
 * call is always looked at from both sides: what it throws, and that the object is as it would be
 * without it.
 */
final class Edges {
    interface OfInt {
        long on(OwnerLedger x, int value);
    }

    interface OfLong {
        long on(OwnerLedger x, long value);
    }

    private final Check check = new Check();
    private String sentence = "";
    private int sentences;

    /** The checks that follow are of this sentence of the document. */
    void sentence(String promise, String words) {
        sentence = promise + ", " + words + ": ";
        sentences++;
    }

    void answers(String detail, long want, Ledgers.Maker maker, Check.Use use) {
        OwnerLedger x = maker.make();
        check.due(sentence + detail, want, () -> use.on(x));
    }

    void refuses(String detail, Class<?> want, Ledgers.Maker maker, Check.Use use) {
        OwnerLedger x = maker.make();
        check.refused(sentence + detail, want, () -> use.on(x));
        changesNothing(detail, maker, use);
    }

    void changesNothing(String detail, Ledgers.Maker maker, Check.Use use) {
        check.same(sentence + detail + ": what it changes", "none", State.changeBy(use, maker));
    }

    /** The first and the last number are taken; those beside them and the outermost are refused. */
    void range(Class<?> refusal, int least, int most, Ledgers.Maker maker, OfInt use) {
        for (int value : new int[] {least, most}) {
            takes(String.valueOf(value), maker, x -> use.on(x, value));
        }
        int[] outside = {
            Integer.MIN_VALUE, Integer.MIN_VALUE + 1, least - 256, least - 1, most + 1, most + 256,
            Integer.MAX_VALUE - 1, Integer.MAX_VALUE,
        };
        for (int value : outside) {
            refuses(String.valueOf(value), refusal, maker, x -> use.on(x, value));
        }
    }

    /** As range, for cents; among the refused are numbers whose lower 32 bits alone would do. */
    void rangeOfCents(long least, long most, Ledgers.Maker maker, OfLong use) {
        for (long value : new long[] {least, least + 1, most - 1, most}) {
            takes(String.valueOf(value), maker, x -> use.on(x, value));
        }
        long[] outside = {
            Long.MIN_VALUE, Long.MIN_VALUE + 1, least - (1L << 32), most - (1L << 32), least - 1, most + 1,
            least + (1L << 32), most + (1L << 32), Long.MAX_VALUE - 1, Long.MAX_VALUE,
        };
        for (long value : outside) {
            refuses(String.valueOf(value), Check.ARGUMENT, maker, x -> use.on(x, value));
        }
    }

    private void takes(String detail, Ledgers.Maker maker, Check.Use use) {
        answers(detail + " is taken", 1, maker, x -> {
            use.on(x);
            return 1;
        });
    }

    /** Ends the test: with exit code 1 if a sentence does not hold. */
    void end() {
        check.end();
        System.out.println(sentences + " sentences hold");
    }
}
