/** Boundary cases of the promises 21 to 31: the questions. */
final class BoundsOfQuestions {
    private static final int TOUCH = Chipcardhouse.NONE;

    private BoundsOfQuestions() {
    }

    static void run() {
        promisesOfCardAt();
        promisesOfPaymentAt();
        promisesOfKnows();
        promisesOfAccountAt();
        promisesOfShopAt();
        promisesOfCount();
        promisesOfFees();
        promisesOfMeanPayment();
        promisesOfGrantedShare();
        promisesOfChecksum();
        promisesOfErrors();
    }

    /** Two accounts, shops and cards, and three payments: PAID, GRANTED by the issuer, and DENIED. */
    private static Chipcardhouse busyHouse() {
        Chipcardhouse house = Check.house();
        house.account(5);
        house.shop(500, 0);
        house.card(0, 7, 0, 0);
        house.pay(0, 0, 100, TOUCH);
        house.passes(1);
        house.pay(1, 1, 600, 7);
        house.pay(1, 1, 20000, 7);
        house.passes(2);
        return house;
    }

    private static void these(String of, long[] got, long... due) {
        Check.due(of + ": so many", got.length, due.length);
        for (int what = 0; what < due.length; what++) {
            Check.due(of + ": " + what, got[what], due[what]);
        }
    }

    private static long[] card(Chipcardhouse house, int card) {
        long[] all = new long[9];
        for (int what = 0; what <= 8; what++) {
            all[what] = house.cardAt(card, what);
        }
        return all;
    }

    private static long[] payment(Chipcardhouse house, int payment) {
        long[] all = new long[10];
        for (int what = 0; what <= 9; what++) {
            all[what] = house.paymentAt(payment, what);
        }
        return all;
    }

    private static long[] number(Chipcardhouse house, int number) {
        long[] all = new long[8];
        for (int what = 0; what <= 7; what++) {
            all[what] = house.knows(number, what);
        }
        return all;
    }

    private static long[] account(Chipcardhouse house, int account) {
        long[] all = new long[4];
        for (int what = 0; what <= 3; what++) {
            all[what] = house.accountAt(account, what);
        }
        return all;
    }

    private static long[] shop(Chipcardhouse house, int shop) {
        long[] all = new long[6];
        for (int what = 0; what <= 5; what++) {
            all[what] = house.shopAt(shop, what);
        }
        return all;
    }

    private static long[] counts(Chipcardhouse house) {
        long[] all = new long[10];
        for (int what = 0; what <= 9; what++) {
            all[what] = house.count(what);
        }
        return all;
    }

    private static void askedTwice(Chipcardhouse house, Runnable questions) {
        String before = Check.stateOf(house);
        questions.run();
        Check.due("a question changes nothing", before.equals(Check.stateOf(house)), true);
    }

    // ---- promise 21

    private static void promisesOfCardAt() {
        Bound.promise(21, "`card`: a card");
        Bound.exist(2, BoundsOfQuestions::busyHouse, (house, n) -> house.cardAt(n, 0));
        Bound.promise(21, "`what`: 0 its counter, 1 its PIN tries, 2 its touches, 3 its count, 4 its sum, 5 1 if it is dead, "
                + "otherwise 0, 6 its greatest count, 7 its key, 8 the number of counters that the issuer heard of it");
        Bound.rangeOfArgument(0, 8, BoundsOfQuestions::busyHouse, (house, n) -> house.cardAt(0, n));
        Chipcardhouse house = busyHouse();
        these("card 0", card(house, 0), 1, 3, 1, 1, 100, 0, 9, 4242, 0);
        these("card 1", card(house, 1), 2, 3, 0, 0, 0, 0, 0, 2459, 2);
        house.pay(0, 0, 5, 8);
        house.tells(0, 2);
        house.pay(0, 0, 501, TOUCH);
        house.passes(2);
        these("card 0, dead", card(house, 0), 2, 2, 0, 0, 0, 1, 9, 4242, 1);
        Bound.promise(21, "Returns this.");
        these("card 1 is as before", card(house, 1), 2, 3, 0, 0, 0, 0, 0, 2459, 2);
        askedTwice(house, () -> card(house, 0));
        Bound.promise(21, "Throws `IndexOutOfBoundsException` if there is no such card");
        Bound.noneExists(Chipcardhouse::new, (empty, n) -> empty.cardAt(n, 0));
        Check.none("and what is wrong", house, () -> house.cardAt(2, 9));
        Bound.promise(21, "Throws `IllegalArgumentException` if what is out of range");
        Check.bad("9", house, () -> house.cardAt(1, 9));
        Check.bad("-1", house, () -> house.cardAt(1, -1));
    }

    // ---- promise 22

    private static void promisesOfPaymentAt() {
        Bound.promise(22, "`payment`: a payment");
        Bound.exist(3, BoundsOfQuestions::busyHouse, (house, n) -> house.paymentAt(n, 0));
        Bound.promise(22, "`what`: 0 its state, 1 its card, 2 its shop, 3 its amount, 4 its counter, 5 its stamp, 6 its tick, "
                + "7 the reason of DENIED (0 otherwise), 8 of a GRANTED one 1 by the issuer, 2 by the switch (0 otherwise), "
                + "9 1 if a RECORD of it was sent, otherwise 0");
        Bound.rangeOfArgument(0, 9, BoundsOfQuestions::busyHouse, (house, n) -> house.paymentAt(0, n));
        Chipcardhouse house = busyHouse();
        these("PAID", payment(house, 0), 0, 0, 0, 100, 1, Check.stamp(0, 1, 100, 0, 1), 0, 0, 0, 0);
        these("GRANTED", payment(house, 1), 2, 1, 1, 600, 1, Check.stamp(1, 1, 600, 1, 2), 1, 0, 1, 0);
        these("DENIED", payment(house, 2), 3, 1, 1, 20000, 2, Check.stamp(1, 2, 20000, 1, 2), 1, 6, 0, 0);
        house.faults(0, 0, 0, 1);
        house.pay(0, 0, 501, 7);
        house.pay(0, 0, 502, 7);
        house.setOpen(false);
        these("ASKING", payment(house, 3), 1, 0, 0, 501, 2, Check.stamp(0, 2, 501, 0, 2), 3, 0, 0, 0);
        house.passes(8);
        these("GIVEN UP", payment(house, 3), 4, 0, 0, 501, 2, Check.stamp(0, 2, 501, 0, 2), 3, 0, 0, 0);
        these("by the switch", payment(house, 4), 2, 0, 0, 502, 3, Check.stamp(0, 3, 502, 0, 2), 3, 0, 2, 0);
        house.forge(0, 0, 0);
        these("a thief's is none of it", payment(house, 0), 0, 0, 0, 100, 1, Check.stamp(0, 1, 100, 0, 1), 0, 0, 0, 0);
        house.sends(0);
        house.sends(1);
        int[] sent = {1, 1, 0, 0, 1};
        for (int i = 0; i < 5; i++) {
            Check.due("a RECORD was sent of " + i, house.paymentAt(i, 9), sent[i]);
        }
        Bound.promise(22, "as its terminal knows it");
        house.setOpen(true);
        Check.due("the issuer heard a note", house.knows(4, 5), 1);
        Check.due("the terminal does not know it", house.paymentAt(4, 8), 2);
        Bound.promise(22, "Returns this.");
        askedTwice(house, () -> payment(house, 4));
        Bound.promise(22, "Throws `IndexOutOfBoundsException` if there is no such payment");
        Bound.noneExists(Check::house, (empty, n) -> empty.paymentAt(n, 0));
        Check.none("and what is wrong", house, () -> house.paymentAt(5, 10));
        Bound.promise(22, "Throws `IllegalArgumentException` if what is out of range");
        Check.bad("10", house, () -> house.paymentAt(4, 10));
        Check.bad("-1", house, () -> house.paymentAt(4, -1));
    }

    // ---- promise 23

    private static void promisesOfKnows() {
        Bound.promise(23, "`number`: the number of a payment, 0 to 999");
        Bound.exist(1000, BoundsOfQuestions::busyHouse, (house, n) -> house.knows(n, 0));
        Bound.exist(1000, Chipcardhouse::new, (house, n) -> house.knows(n, 7));
        Bound.promise(23, "`what`: 0 what it answered (0 nothing, 1 GRANTED, 2 DENIED), 1 the amount that is held, 2 1 if it is "
                + "POSTED, 3 1 if it is TAKEN BACK, 4 1 if it is REJECTED, 5 1 if it heard a note of it (0 otherwise), 6 the "
                + "amount that is left of a POSTED one (0 otherwise), 7 the day on which it was POSTED (NONE otherwise)");
        Bound.rangeOfArgument(0, 7, BoundsOfQuestions::busyHouse, (house, n) -> house.knows(0, n));
        Bound.rangeOfArgument(0, 7, BoundsOfQuestions::busyHouse, (house, n) -> house.knows(999, n));
        Chipcardhouse house = busyHouse();
        these("not asked", number(house, 0), 0, 0, 0, 0, 0, 0, 0, -1);
        these("GRANTED", number(house, 1), 1, 600, 0, 0, 0, 0, 0, -1);
        these("DENIED", number(house, 2), 2, 0, 0, 0, 0, 0, 0, -1);
        house.endDay();
        house.sends(0);
        house.sends(1);
        house.forge(0, 1, 999);
        house.passes(1);
        house.backMoney(1, 1, 600);
        house.backMoney(0, 0, 30);
        house.passes(1);
        these("POSTED", number(house, 0), 0, 0, 1, 0, 0, 0, 70, 1);
        these("POSTED, and all is back", number(house, 1), 1, 0, 1, 0, 0, 0, 0, 1);
        these("REJECTED", number(house, 999), 0, 0, 0, 0, 1, 0, 0, -1);
        takenBackAndNoted(house);
        Bound.promise(23, "Returns this.");
        askedTwice(house, () -> number(house, 999));
        Bound.promise(23, "Throws `IndexOutOfBoundsException` if the number is out of range");
        Check.none("1000", house, () -> house.knows(1000, 0));
        Check.none("-1, and what is wrong", house, () -> house.knows(-1, -1));
        Bound.promise(23, "Throws `IllegalArgumentException` if what is out of range");
        Check.bad("8", house, () -> house.knows(999, 8));
        Check.bad("-1", house, () -> house.knows(0, -1));
    }

    private static void takenBackAndNoted(Chipcardhouse house) {
        house.setOpen(false);
        house.faults(0, 1, 0, 1);
        house.pay(0, 0, 501, 7);
        house.passes(8);
        these("not heard", number(house, 3), 0, 0, 0, 0, 0, 0, 0, -1);
        house.setOpen(true);
        these("a note", number(house, 3), 0, 501, 0, 0, 0, 1, 0, -1);
        house.passes(1);
        these("TAKEN BACK", number(house, 3), 0, 0, 0, 1, 0, 1, 0, -1);
    }

    // ---- promise 24

    private static void promisesOfAccountAt() {
        Bound.promise(24, "`account`: an account");
        Bound.exist(2, BoundsOfQuestions::busyHouse, (house, n) -> house.accountAt(n, 0));
        Bound.promise(24, "`what`: 0 its balance, 1 what is held of it, 2 what is free, 3 1 if it is frozen, otherwise 0");
        Bound.rangeOfArgument(0, 3, BoundsOfQuestions::busyHouse, (house, n) -> house.accountAt(0, n));
        Chipcardhouse house = busyHouse();
        these("account 0", account(house, 0), 10000, 600, 9400, 0);
        these("account 1", account(house, 1), 5, 0, 5, 0);
        house.freeze(1, true);
        these("account 1, frozen", account(house, 1), 5, 0, 5, 1);
        Bound.promise(24, "Returns this, as a long.");
        these("account 0 is as before", account(house, 0), 10000, 600, 9400, 0);
        askedTwice(house, () -> account(house, 0));
        Bound.promise(24, "Throws `IndexOutOfBoundsException` if there is no such account");
        Bound.noneExists(Chipcardhouse::new, (empty, n) -> empty.accountAt(n, 0));
        Check.none("and what is wrong", house, () -> house.accountAt(2, 4));
        Bound.promise(24, "Throws `IllegalArgumentException` if what is out of range");
        Check.bad("4", house, () -> house.accountAt(1, 4));
        Check.bad("-1", house, () -> house.accountAt(1, -1));
    }

    // ---- promise 25

    private static void promisesOfShopAt() {
        Bound.promise(25, "`shop`: a shop");
        Bound.exist(2, BoundsOfQuestions::busyHouse, (house, n) -> house.shopAt(n, 0));
        Bound.promise(25, "`what`: 0 its money, 1 what stands in between for it, 2 the number of its payments, 3 the messages that"
                + " its terminal keeps, 4 the messages that are on the line up, 5 those on the line down");
        Bound.rangeOfArgument(0, 5, BoundsOfQuestions::busyHouse, (house, n) -> house.shopAt(0, n));
        Chipcardhouse house = busyHouse();
        these("shop 0", shop(house, 0), 0, 0, 1, 0, 0, 0);
        these("shop 1", shop(house, 1), 0, 0, 2, 0, 0, 0);
        house.faults(0, 0, 1, 1);
        house.sends(0);
        house.faults(1, 0, 0, 1);
        house.sends(1);
        these("a doubled one", shop(house, 0), 0, 0, 1, 1, 2, 0);
        these("a lost one", shop(house, 1), 0, 0, 2, 1, 0, 0);
        house.passes(1);
        these("POSTED", shop(house, 0), 0, 100, 1, 1, 0, 2);
        house.passes(1);
        house.endDay();
        these("settled", shop(house, 0), 99, 0, 1, 0, 0, 0);
        house.backMoney(0, 0, 1);
        house.passes(2);
        these("below 0", shop(house, 0), 99, -1, 1, 0, 0, 0);
        Bound.promise(25, "Returns this, as a long.");
        these("shop 1 is as before", shop(house, 1), 0, 0, 2, 1, 0, 0);
        askedTwice(house, () -> shop(house, 0));
        Bound.promise(25, "Throws `IndexOutOfBoundsException` if there is no such shop");
        Bound.noneExists(Chipcardhouse::new, (empty, n) -> empty.shopAt(n, 0));
        Check.none("and what is wrong", house, () -> house.shopAt(2, 6));
        Bound.promise(25, "Throws `IllegalArgumentException` if what is out of range");
        Check.bad("6", house, () -> house.shopAt(1, 6));
        Check.bad("-1", house, () -> house.shopAt(1, -1));
    }

    // ---- promises 26 and 27

    private static void promisesOfCount() {
        Bound.promise(26, "`what`: 0 the tick, 1 the day, 2 the accounts, 3 the shops, 4 the cards, 5 the payments, 6 the numbers "
                + "that are POSTED, 7 the numbers that are REJECTED, 8 the notes that the switch keeps, 9 1 if the issuer is "
                + "open, otherwise 0");
        Bound.rangeOfArgument(0, 9, Chipcardhouse::new, Chipcardhouse::count);
        these("empty", counts(new Chipcardhouse()), 0, 0, 0, 0, 0, 0, 0, 0, 0, 1);
        Chipcardhouse house = busyHouse();
        these("busy", counts(house), 3, 0, 2, 2, 2, 3, 0, 0, 0, 1);
        house.sends(0);
        house.sends(1);
        house.forge(0, 1, 999);
        house.forge(0, 1, 999);
        house.forge(0, 1, 998);
        house.passes(1);
        house.endDay();
        house.setOpen(false);
        house.pay(1, 1, 7, 7);
        house.passes(1);
        these("closed", counts(house), 5, 1, 2, 2, 2, 4, 2, 2, 1, 0);
        Bound.promise(26, "Returns the number.");
        askedTwice(house, () -> counts(house));
        Bound.promise(26, "Throws `IllegalArgumentException` if what is out of range");
        Check.bad("10", house, () -> house.count(10));
        Check.bad("-1", house, () -> house.count(-1));
        manyPosted();
    }

    private static void manyPosted() {
        Bound.promise(26, "6 the numbers that are POSTED, 7 the numbers that are REJECTED");
        Chipcardhouse house = Check.house();
        house.pay(0, 0, 5, 7);
        house.forge(0, 0, 0);
        for (int as = 1; as <= 400; as++) {
            house.forge(0, 0, 999 - as);
        }
        house.passes(1);
        Check.due("POSTED", house.count(6), 1);
        Check.due("REJECTED", house.count(7), 400);
        Check.due("errors", house.errors(), 0);
    }

    private static void promisesOfFees() {
        Bound.promise(27, "Returns the money that the house has from fees.");
        Check.due("of an empty house", new Chipcardhouse().fees(), 0);
        Chipcardhouse house = new Chipcardhouse();
        house.account(9000000);
        house.shop(0, 0);
        house.shop(0, 0);
        house.card(0, 7, 0, 0);
        house.setHouse(0, 500, 1);
        for (int i = 0; i < 90; i++) {
            house.pay(0, i % 2, 100000, 7);
        }
        house.passes(2);
        house.sends(0);
        house.sends(1);
        house.passes(1);
        Check.due("none before the day ends", house.fees(), 0);
        house.endDay();
        Bound.promise(27, "Returns the money.");
        Check.due("of all that there can be: 4500000 * 500 is more than an int", house.fees(), 450000);
        Check.due("shop 0", house.shopAt(0, 0), 4275000);
        Check.due("shop 1", house.shopAt(1, 0), 4275000);
        Check.due("the account is empty", house.accountAt(0, 0), 0);
        Check.due("errors", house.errors(), 0);
    }

    // ---- promises 28 and 29

    private static void promisesOfMeanPayment() {
        Bound.promise(28, "`shop`: a shop");
        Bound.exist(2, BoundsOfQuestions::busyHouse, Chipcardhouse::meanPayment);
        Bound.promise(28, "Returns the mean amount of the payments of a shop that are PAID or GRANTED.");
        Chipcardhouse house = busyHouse();
        Check.due("the PAID one of shop 0", house.meanPayment(0) == 100.0, true);
        Check.due("the GRANTED one of shop 1, not the DENIED one", house.meanPayment(1) == 600.0, true);
        house.setOpen(false);
        house.faults(1, 0, 0, 1);
        house.pay(1, 1, 900, 7);
        house.pay(1, 1, 300, 7);
        Check.due("not the ASKING ones", house.meanPayment(1) == 600.0, true);
        house.passes(8);
        Check.due("GRANTED by the switch, and not GIVEN UP", house.meanPayment(1) == 450.0, true);
        Bound.promise(28, "Returns the sum of their amounts (a long), converted to double, divided by their number, converted to "
                + "double; 0.0 without such.");
        Chipcardhouse none = Check.house();
        Check.due("without payments", none.meanPayment(0) == 0.0, true);
        none.pay(0, 0, 501, 7);
        Check.due("without such", none.meanPayment(0) == 0.0, true);
        none.pay(0, 0, 1, 7);
        none.pay(0, 0, 1, 7);
        none.pay(0, 0, 2, 7);
        Check.due("a third", none.meanPayment(0) == 4.0 / 3.0, true);
        Chipcardhouse many = new Chipcardhouse();
        for (int i = 0; i < 8; i++) {
            many.account(9000000);
            many.card(i, 7, 0, 0);
        }
        many.shop(0, 0);
        for (int i = 0; i < 200; i++) {
            many.pay(i % 8, 0, i == 0 ? 99999 : 100000, 7);
        }
        many.passes(2);
        Check.due("all that there can be", many.meanPayment(0) == 19999999.0 / 200.0, true);
        Check.due("all are GRANTED", many.grantedShare() == 1.0f, true);
        Bound.promise(28, "Throws `IndexOutOfBoundsException` if there is no such shop");
        Bound.noneExists(Chipcardhouse::new, Chipcardhouse::meanPayment);
    }

    private static void promisesOfGrantedShare() {
        Bound.promise(29, "Returns how many of all payments are PAID or GRANTED.");
        Chipcardhouse house = busyHouse();
        Check.due("PAID and GRANTED of three", house.grantedShare() == 2.0f / 3.0f, true);
        house.faults(0, 0, 0, 1);
        house.pay(0, 0, 501, 7);
        Check.due("ASKING is not", house.grantedShare() == 2.0f / 4.0f, true);
        house.passes(8);
        Check.due("GIVEN UP is not", house.grantedShare() == 0.5f, true);
        Bound.promise(29, "Returns their number, converted to float, divided by the number of payments, converted to float; 0.0f "
                + "without payments.");
        Chipcardhouse none = Check.house();
        Check.due("without payments", none.grantedShare() == 0.0f, true);
        Check.due("of an empty house", new Chipcardhouse().grantedShare() == 0.0f, true);
        none.pay(0, 0, 1, 8);
        Check.due("a REFUSED one is none", none.grantedShare() == 0.0f, true);
        none.pay(0, 0, 501, 7);
        Check.due("none of one", none.grantedShare() == 0.0f, true);
        none.passes(2);
        Check.due("one of one", none.grantedShare() == 1.0f, true);
        none.pay(0, 0, 502, 7);
        Check.due("one of two", none.grantedShare() == 0.5f, true);
        for (int i = 2; i < 7; i++) {
            none.pay(0, 0, 502, 7);
        }
        Check.due("one of seven, as a float", none.grantedShare() == 1.0f / 7.0f, true);
    }

    // ---- promises 30 and 31

    private static void promisesOfChecksum() {
        Bound.promise(30, "Returns the sum (0 at first) becomes, for each payment by its number, 31 times the sum, and its state, "
                + "and 7 times its amount, and 3 times its counter, and, if its number is POSTED, 1000, as longs that go round.");
        Chipcardhouse house = Check.house();
        Check.due("without payments", house.checksum(), 0);
        house.pay(0, 0, 1, 8);
        Check.due("a REFUSED one is none", house.checksum(), 0);
        house.pay(0, 0, 100, 7);
        Check.due("one", house.checksum(), 703);
        house.pay(0, 0, 600, 7);
        Check.due("two", house.checksum(), 703 * 31 + 1 + 4200 + 6);
        house.sends(0);
        house.passes(2);
        Check.due("the first is POSTED, the second GRANTED", house.checksum(), 1703 * 31 + 2 + 4200 + 6);
        house.forge(0, 0, 999);
        house.passes(1);
        Check.due("a number of no payment is nothing", house.checksum(), 1703 * 31 + 2 + 4200 + 6);
        goesRound();
    }

    private static void goesRound() {
        Bound.promise(30, "as longs that go round");
        Chipcardhouse house = new Chipcardhouse();
        house.account(1);
        house.shop(0, 0);
        house.card(0, 7, 0, 0);
        java.math.BigInteger exact = java.math.BigInteger.ZERO;
        boolean wentRound = false;
        for (int i = 1; i <= 200; i++) {
            house.pay(0, 0, 100000, 7);
            exact = exact.multiply(java.math.BigInteger.valueOf(31)).add(java.math.BigInteger.valueOf(700001L + 3 * i));
            Check.due("payments: " + i, house.checksum(), exact.longValue());
            wentRound |= exact.bitLength() > 63;
        }
        Check.due("it went round", wentRound, true);
    }

    private static void promisesOfErrors() {
        Bound.promise(31, "Returns how many of these six things are not so; always 0.");
        Check.due("of an empty house", new Chipcardhouse().errors(), 0);
        Chipcardhouse house = busyHouse();
        Check.due("of a busy one", house.errors(), 0);
        Bound.promise(31, "Checks the theorem");
        for (int i = 0; i < 3; i++) {
            house.forge(i % 2, i, 2);
            house.forge(i % 2, i, 900 + i);
        }
        house.passes(1);
        Check.due("a number of a DENIED payment is POSTED", house.knows(2, 2), 1);
        Check.due("by a thief", house.errors(), 0);
        house.setOpen(false);
        house.pay(0, 0, 501, 7);
        house.faults(0, 1, 0, 1);
        house.passes(9);
        house.setOpen(true);
        Check.due("a note, and a hold of what is GIVEN UP", house.errors(), 0);
        house.passes(20);
        int touched = house.pay(0, 0, 5, TOUCH);
        house.sends(0);
        house.passes(1);
        Check.due("what is back", house.dispute(touched), 5);
        Check.due("a dispute", house.errors(), 0);
        house.endDay();
        house.endDay();
        Check.due("all money is what was put in", house.errors(), 0);
        askedTwice(house, house::errors);
    }
}
