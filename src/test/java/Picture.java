/** All that can be found out of an office: what it answers when it is asked, when it is told anew, and to random calls. */
final class Picture {
    private static final int REQUESTS_A_TIME = 10;
    private static final int INVOICES_A_TIME = 25;
    private static final int SUPPLIERS_A_TIME = 3;
    private static final int DISCOUNT_DAYS = 30;
    private static final int CONTROLLED = 100000;
    private static final int RANDOM_RUNS = 3;
    private static final int RANDOM_CALLS = 120;

    private Picture() {
    }

    static String of(Scene scene) {
        StringBuilder text = new StringBuilder();
        books(scene.make(), text);
        for (int i = 0; i < 40; i += REQUESTS_A_TIME) {
            requests(scene.make(), i, text);
        }
        for (int i = 0; i < 60; i += INVOICES_A_TIME) {
            invoices(scene.make(), i, text);
        }
        tripsAndEntries(scene.make(), text);
        toldBefore(scene.make(), text);
        approvers(scene.make(), text);
        largestChanges(scene.make(), text);
        for (int i = 0; i < 6; i += SUPPLIERS_A_TIME) {
            suppliers(scene.make(), i, text);
        }
        for (int seed = 1; seed <= RANDOM_RUNS; seed++) {
            goingOn(scene.make(), seed, text);
        }
        return text.toString();
    }

    private static void books(ChitWright x, StringBuilder text) {
        text.append("day ").append(x.day()).append(" accounts");
        for (int i = 0; i < 9; i++) {
            text.append(' ').append(x.account(i));
        }
        for (int c = 0; c < 6; c++) {
            text.append(" centre ").append(c);
            for (int y = 0; y < 3; y++) {
                for (int w = 0; w < 4; w++) {
                    text.append(' ').append(x.centre(c, y, w));
                }
            }
        }
        for (int i = 0; i < 12; i++) {
            try {
                text.append(" person ").append(x.staff(i, 0)).append(' ').append(x.staff(i, 1));
            } catch (IndexOutOfBoundsException e) {
                return;
            }
        }
    }

    private static void requests(ChitWright x, int from, StringBuilder text) {
        for (int i = from; i < from + REQUESTS_A_TIME; i++) {
            try {
                text.append(" request ").append(x.next(i));
            } catch (IndexOutOfBoundsException e) {
                return;
            }
            for (int w = 0; w < 6; w++) {
                text.append(' ').append(x.requestOf(i, w));
            }
            lines(x, i, text);
        }
    }

    private static void lines(ChitWright x, int request, StringBuilder text) {
        for (int i = 0; i < 4; i++) {
            try {
                text.append(" line");
                for (int w = 0; w < 5; w++) {
                    text.append(' ').append(x.lineOf(request, i, w));
                }
            } catch (IndexOutOfBoundsException e) {
                return;
            }
        }
    }

    private static void invoices(ChitWright x, int from, StringBuilder text) {
        for (int i = from; i < Math.min(60, from + INVOICES_A_TIME); i++) {
            try {
                text.append(" invoice ").append(x.isSampled(0, i));
            } catch (IndexOutOfBoundsException e) {
                return;
            }
            for (int w = 0; w < 8; w++) {
                text.append(' ').append(x.invoiceOf(i, w));
            }
        }
    }

    private static void tripsAndEntries(ChitWright x, StringBuilder text) {
        try {
            for (int i = 0; i < 30; i++) {
                text.append(" trip ").append(x.tripCost(i)).append(x.isSampled(1, i));
            }
        } catch (IndexOutOfBoundsException e) {
            text.append(" no more");
        }
        try {
            for (int i = 0; i < 40; i++) {
                text.append(" entry ").append(x.isTold(i)).append(x.isSampled(2, i));
            }
        } catch (IndexOutOfBoundsException e) {
            text.append(" no more");
        }
    }

    /** What was told before, as the calls that tell it anew answer. */
    private static void toldBefore(ChitWright x, StringBuilder text) {
        text.append(" carried ").append(x.carried(0)).append(" rates ").append(x.rate(1, 1000)).append(' ').append(x.rate(2, 1000));
        for (int i = 0; i < 4; i++) {
            text.append(" place ").append(x.place(i, 0));
        }
        for (int i = 0; i < 6; i++) {
            text.append(" soft ").append(x.soft(i, false));
        }
        text.append(" card ").append(x.payCard());
        try {
            text.append(" controller ").append(x.controller(0));
        } catch (IndexOutOfBoundsException e) {
            text.append(" nobody");
        }
    }

    /** Who approves, one after the other, what each person requests. */
    private static void approvers(ChitWright x, StringBuilder text) {
        x.soft(5, true);
        for (int p = 0; p < 12; p++) {
            int person = p;
            long r = told(text, () -> x.request(person, 5));
            if (r < 0) {
                return;
            }
            int request = (int) r;
            x.line(request, true, 1, CONTROLLED);
            told(text, () -> x.send(request));
            for (int who = x.next(request); who >= 0; who = x.next(request)) {
                text.append(" by ").append(who);
                x.approve(request, who);
            }
        }
    }

    /** How far the quantities of each order can be changed, which tells what its total was when it was ordered. */
    private static void largestChanges(ChitWright x, StringBuilder text) {
        for (int c = 0; c < 6; c++) {
            x.soft(c, true);
        }
        for (int r = 0; r < 40; r++) {
            int request = r;
            if (told(text, () -> x.requestOf(request, 0)) == ChitWright.ORDERED) {
                text.append(" up to ").append(largestChange(x, request));
            }
        }
    }

    private static int largestChange(ChitWright x, int request) {
        int low = x.lineOf(request, 0, 0);
        int high = 99;
        while (low < high) {
            int middle = (low + high + 1) / 2;
            if (Check.thrownBy(() -> x.change(request, 0, middle)) == null) {
                low = middle;
            } else {
                high = middle - 1;
            }
        }
        return low;
    }

    /** What an order from a supplier costs, and what is paid for it on each day on which there may be a discount. */
    private static void suppliers(ChitWright x, int from, StringBuilder text) {
        x.soft(5, true);
        int[] invoices = new int[SUPPLIERS_A_TIME];
        for (int i = 0; i < SUPPLIERS_A_TIME; i++) {
            int supplier = from + i;
            text.append(" supplier ").append(supplier);
            invoices[i] = (int) told(text, () -> invoiceFrom(x, supplier));
            for (int w = 0; w < 7 && invoices[i] >= 0; w++) {
                text.append(' ').append(x.invoiceOf(invoices[i], w));
            }
        }
        for (int day = 0; day <= DISCOUNT_DAYS; day++) {
            told(text, () -> x.run(2000, true));
            for (int invoice : invoices) {
                if (told(text, () -> x.bounce(invoice)) >= 0) {
                    x.goOn(invoice);
                }
            }
            told(text, () -> x.pass(1));
        }
    }

    private static int invoiceFrom(ChitWright x, int supplier) {
        int request = x.request(0, 5);
        x.line(request, true, 9, 10000);
        x.send(request);
        x.order(request, supplier);
        return x.invoice(request, 0, 1, 997);
    }

    private interface Question {
        long answer();
    }

    /** Puts down the answer, or the name of what was thrown, and answers that, or -1. */
    private static long told(StringBuilder text, Question question) {
        long[] answer = {-1};
        Class<?> thrown = Check.thrownBy(() -> answer[0] = question.answer());
        text.append(' ').append(thrown == null ? Long.toString(answer[0]) : thrown.getSimpleName());
        return thrown == null ? answer[0] : -1;
    }

    private static void goingOn(ChitWright x, int seed, StringBuilder text) {
        RandomCalls calls = new RandomCalls(x, seed).lookAround();
        text.append(" going on ").append(seed).append(':');
        for (int i = 0; i < RANDOM_CALLS; i++) {
            text.append(' ').append(calls.call());
        }
    }
}
