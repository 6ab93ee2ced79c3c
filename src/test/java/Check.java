/** What the tests share: a count of what is not as due, and texts of whole houses. */
final class Check {
    static int wrong = 0;
    static int checks = 0;
    // What the checks are about, ahead of what is printed.
    static String about = "";

    private Check() {
    }

    static void due(String what, long got, long due) {
        checks++;
        if (got != due) {
            wrong++;
            System.out.println(about + what + " answered " + got + ", due is " + due);
        }
    }

    static void due(String what, boolean got, boolean due) {
        due(what, got ? 1 : 0, due ? 1 : 0);
    }

    /** The call must throw just this, and change nothing. */
    static void refused(String what, Chipcardhouse house, Class<? extends RuntimeException> kind, Runnable call) {
        String before = stateOf(house);
        checks++;
        try {
            call.run();
            wrong++;
            System.out.println(about + what + " threw nothing, due is " + kind.getSimpleName());
        } catch (RuntimeException e) {
            if (e.getClass() != kind) {
                wrong++;
                System.out.println(about + what + " threw " + e + ", due is " + kind.getSimpleName());
            }
            if (!isThrownByProgram(e)) {
                wrong++;
                System.out.println(about + what + " was thrown by the machine or the library: " + e);
            }
        }
        if (!before.equals(stateOf(house))) {
            wrong++;
            System.out.println(about + what + " was refused and changed something");
        }
    }

    /** Whether a throw statement of the program made it, and not the machine or the library. */
    static boolean isThrownByProgram(RuntimeException e) {
        StackTraceElement[] trace = e.getStackTrace();
        boolean isSurelyNot = e instanceof ArrayIndexOutOfBoundsException || e instanceof NullPointerException
                || e instanceof ArithmeticException || e instanceof ClassCastException;
        return !isSurelyNot && trace.length > 0 && trace[0].getClassName().startsWith("Chipcardhouse");
    }

    static void none(String what, Chipcardhouse house, Runnable call) {
        refused(what, house, IndexOutOfBoundsException.class, call);
    }

    static void bad(String what, Chipcardhouse house, Runnable call) {
        refused(what, house, IllegalArgumentException.class, call);
    }

    static void late(String what, Chipcardhouse house, Runnable call) {
        refused(what, house, IllegalStateException.class, call);
    }

    /** All that questions tell of a house (a card's, an account's, a shop's and a payment's number stand for themselves). */
    static String stateOf(Chipcardhouse house) {
        StringBuilder all = new StringBuilder();
        for (int what = 0; what <= 9; what++) {
            all.append(house.count(what)).append(' ');
        }
        for (int i = 0; i < house.count(2); i++) {
            for (int what = 0; what <= 3; what++) {
                all.append(house.accountAt(i, what)).append(' ');
            }
        }
        for (int i = 0; i < house.count(3); i++) {
            for (int what = 0; what <= 5; what++) {
                all.append(house.shopAt(i, what)).append(' ');
            }
            for (int fault = 0; fault < 6; fault++) {
                all.append(house.faults(i, fault / 3, fault % 3, 0)).append(' ');
            }
            all.append(house.meanPayment(i)).append(' ');
        }
        for (int i = 0; i < house.count(4); i++) {
            for (int what = 0; what <= 8; what++) {
                all.append(house.cardAt(i, what)).append(' ');
            }
        }
        for (int i = 0; i < house.count(5); i++) {
            for (int what = 0; what <= 9; what++) {
                all.append(house.paymentAt(i, what)).append(' ');
            }
        }
        for (int i = 0; i < 1000; i++) {
            for (int what = 0; what <= 7; what++) {
                all.append(house.knows(i, what)).append(' ');
            }
        }
        all.append(house.fees()).append(' ').append(house.checksum()).append(' ').append(house.fault());
        all.append(' ').append(house.grantedShare()).append(' ').append(house.errors()).append(' ');
        return all.append(' ').append(house.type(0)).toString();
    }

    static void type(Chipcardhouse house, String text) {
        for (int from = 0; from < text.length(); from += 8) {
            long signs = 0;
            for (int i = from; i < Math.min(from + 8, text.length()); i++) {
                signs = signs << 8 | text.charAt(i);
            }
            house.type(signs);
        }
    }

    /** A house with an account of 10000, a shop with the floor 500 and a card with the PIN 7, count 9 and sum 5000. */
    static Chipcardhouse house() {
        Chipcardhouse house = new Chipcardhouse();
        house.account(10000);
        house.shop(500, 0);
        house.card(0, 7, 9, 5000);
        return house;
    }

    /** The stamp, from the document's words. */
    static int stamp(int card, int counter, int amount, int shop, int sort) {
        long x = (271L * card * card + 7919L * card + 4242L) % 9973L;
        for (int number : new int[] {counter, amount, shop, sort}) {
            x = (x * 37L + number + 11L) % 999983L;
        }
        return (int) x;
    }

    static void finish(String test) {
        System.out.println(test + ": " + checks + " checks, " + wrong + " wrong");
        if (wrong != 0) {
            System.exit(1);
        }
    }
}
