/** Promises 21 to 31: the questions. */
public final class QuestionsTest {
    private static final int TOUCH = Chipcardhouse.NONE;

    public static void main(String[] args) {
        wrongQuestions();
        emptyHouse();
        cardAt();
        paymentAt();
        knows();
        accountAt();
        shopAt();
        count();
        fees();
        means();
        checksum();
        errors();
        questionsChangeNothing();
        Check.finish("QuestionsTest");
    }

    private static Chipcardhouse busyHouse() {
        Chipcardhouse house = Check.house();
        house.shop(0, 0);
        house.card(0, 8, 0, 0);
        house.pay(0, 0, 100, TOUCH);
        house.passes(1);
        house.pay(1, 1, 700, 8);
        house.pay(1, 1, 20000, 8);
        house.passes(2);
        return house;
    }

    private static void wrongQuestions() {
        Chipcardhouse house = busyHouse();
        for (int wrong : new int[] {-1, Integer.MIN_VALUE, Integer.MAX_VALUE}) {
            Check.none("cardAt", house, () -> house.cardAt(wrong, 0));
            Check.none("cardAt, both wrong", house, () -> house.cardAt(wrong, -1));
            Check.bad("cardAt", house, () -> house.cardAt(0, wrong));
            Check.none("paymentAt", house, () -> house.paymentAt(wrong, 10));
            Check.bad("paymentAt", house, () -> house.paymentAt(0, wrong));
            Check.none("knows", house, () -> house.knows(wrong, 8));
            Check.bad("knows", house, () -> house.knows(0, wrong));
            Check.none("accountAt", house, () -> house.accountAt(wrong, 4));
            Check.bad("accountAt", house, () -> house.accountAt(0, wrong));
            Check.none("shopAt", house, () -> house.shopAt(wrong, 6));
            Check.bad("shopAt", house, () -> house.shopAt(0, wrong));
            Check.bad("count", house, () -> house.count(wrong));
            Check.none("meanPayment", house, () -> house.meanPayment(wrong));
        }
        Check.none("card 2", house, () -> house.cardAt(2, 0));
        Check.none("payment 3", house, () -> house.paymentAt(3, 0));
        Check.none("number 1000", house, () -> house.knows(1000, 0));
        Check.none("account 1", house, () -> house.accountAt(1, 0));
        Check.none("shop 2", house, () -> house.shopAt(2, 0));
        Check.none("the mean of shop 2", house, () -> house.meanPayment(2));
        Check.bad("a card's 9", house, () -> house.cardAt(0, 9));
        Check.bad("a payment's 10", house, () -> house.paymentAt(0, 10));
        Check.bad("a number's 8", house, () -> house.knows(999, 8));
        Check.bad("an account's 4", house, () -> house.accountAt(0, 4));
        Check.bad("a shop's 6", house, () -> house.shopAt(0, 6));
        Check.bad("the house's 10", house, () -> house.count(10));
    }

    private static void emptyHouse() {
        Chipcardhouse house = new Chipcardhouse();
        for (int what = 0; what <= 6; what++) {
            Check.due("of number 0: " + what, house.knows(0, what), 0);
        }
        Check.due("the day of number 0", house.knows(0, 7), -1);
        Check.due("the share", house.grantedShare() == 0.0f, true);
        Check.none("no mean", house, () -> house.meanPayment(0));
        Check.due("the sum", house.checksum(), 0);
        Check.due("errors", house.errors(), 0);
        Check.due("the constant", Chipcardhouse.NONE, -1);
    }

    private static void these(String of, long[] got, long[] due) {
        for (int i = 0; i < due.length; i++) {
            Check.due(of + " " + i, got[i], due[i]);
        }
    }

    private static long[] card(Chipcardhouse house, int card) {
        long[] all = new long[9];
        for (int i = 0; i < 9; i++) {
            all[i] = house.cardAt(card, i);
        }
        return all;
    }

    private static void cardAt() {
        Chipcardhouse house = busyHouse();
        these("card 0", card(house, 0), new long[] {1, 3, 1, 1, 100, 0, 9, 4242, 0});
        these("card 1", card(house, 1), new long[] {2, 3, 0, 0, 0, 0, 0, 2459, 2});
        house.pay(0, 0, 5, 9);
        house.tells(0, 2);
        house.pay(0, 1, 5, TOUCH);
        house.setOpen(false);
        house.pay(0, 1, 6, TOUCH);
        house.passes(2);
        these("card 0", card(house, 0), new long[] {3, 2, 3, 1, 100, 0, 9, 4242, 0});
        house.setOpen(true);
        these("card 0 behind the notes", card(house, 0), new long[] {3, 2, 3, 1, 100, 0, 9, 4242, 2});
        house.pay(0, 1, 7, TOUCH);
        house.passes(2);
        these("card 0, dead", card(house, 0), new long[] {4, 2, 0, 0, 0, 1, 9, 4242, 3});
    }

    private static void payment(Chipcardhouse house, int payment, long... due) {
        long[] all = new long[10];
        for (int i = 0; i < 10; i++) {
            all[i] = house.paymentAt(payment, i);
        }
        these("payment " + payment, all, due);
    }

    private static void paymentAt() {
        Chipcardhouse house = busyHouse();
        payment(house, 0, 0, 0, 0, 100, 1, Check.stamp(0, 1, 100, 0, 1), 0, 0, 0, 0);
        payment(house, 1, 2, 1, 1, 700, 1, Check.stamp(1, 1, 700, 1, 2), 1, 0, 1, 0);
        payment(house, 2, 3, 1, 1, 20000, 2, Check.stamp(1, 2, 20000, 1, 2), 1, 6, 0, 0);
        house.setOpen(false);
        house.pay(1, 1, 50, 8);
        payment(house, 3, 1, 1, 1, 50, 3, Check.stamp(1, 3, 50, 1, 2), 3, 0, 0, 0);
        house.faults(1, 0, 0, 1);
        house.pay(1, 1, 60, 8);
        house.passes(8);
        house.sends(1);
        payment(house, 3, 2, 1, 1, 50, 3, Check.stamp(1, 3, 50, 1, 2), 3, 0, 2, 1);
        payment(house, 4, 4, 1, 1, 60, 4, Check.stamp(1, 4, 60, 1, 2), 3, 0, 0, 0);
        payment(house, 1, 2, 1, 1, 700, 1, Check.stamp(1, 1, 700, 1, 2), 1, 0, 1, 1);
    }

    private static void number(Chipcardhouse house, int number, long... due) {
        long[] all = new long[8];
        for (int i = 0; i < 8; i++) {
            all[i] = house.knows(number, i);
        }
        these("number " + number, all, due);
    }

    private static void knows() {
        Chipcardhouse house = busyHouse();
        number(house, 0, 0, 0, 0, 0, 0, 0, 0, -1);
        number(house, 1, 1, 700, 0, 0, 0, 0, 0, -1);
        number(house, 2, 2, 0, 0, 0, 0, 0, 0, -1);
        house.endDay();
        house.sends(0);
        house.sends(1);
        house.forge(1, 0, 999);
        house.backMoney(0, 0, 30);
        house.passes(1);
        number(house, 0, 0, 0, 1, 0, 0, 0, 70, 1);
        number(house, 1, 1, 0, 1, 0, 0, 0, 700, 1);
        number(house, 999, 0, 0, 0, 0, 1, 0, 0, -1);
        house.setOpen(false);
        house.faults(1, 1, 0, 1);
        house.pay(1, 1, 50, 8);
        house.passes(8);
        house.setOpen(true);
        number(house, 3, 0, 50, 0, 0, 0, 1, 0, -1);
        house.passes(1);
        number(house, 3, 0, 0, 0, 1, 0, 1, 0, -1);
    }

    private static void accountAt() {
        Chipcardhouse house = busyHouse();
        long[] all = new long[4];
        house.freeze(0, true);
        for (int i = 0; i < 4; i++) {
            all[i] = house.accountAt(0, i);
        }
        these("the account", all, new long[] {10000, 700, 9300, 1});
    }

    private static void shop(Chipcardhouse house, int shop, long... due) {
        long[] all = new long[6];
        for (int i = 0; i < 6; i++) {
            all[i] = house.shopAt(shop, i);
        }
        these("shop " + shop, all, due);
    }

    private static void shopAt() {
        Chipcardhouse house = busyHouse();
        shop(house, 0, 0, 0, 1, 0, 0, 0);
        shop(house, 1, 0, 0, 2, 0, 0, 0);
        house.faults(0, 0, 1, 1);
        house.sends(0);
        house.sends(1);
        shop(house, 0, 0, 0, 1, 1, 2, 0);
        house.passes(1);
        shop(house, 0, 0, 100, 1, 1, 0, 2);
        shop(house, 1, 0, 700, 2, 1, 0, 1);
        house.passes(1);
        house.endDay();
        shop(house, 0, 99, 0, 1, 0, 0, 0);
        shop(house, 1, 693, 0, 2, 0, 0, 0);
    }

    private static void count() {
        Chipcardhouse house = busyHouse();
        house.endDay();
        house.sends(0);
        house.sends(1);
        house.forge(1, 0, 999);
        house.forge(1, 0, 999);
        house.passes(1);
        house.setOpen(false);
        house.pay(1, 1, 50, 8);
        house.passes(1);
        long[] all = new long[10];
        for (int i = 0; i < 10; i++) {
            all[i] = house.count(i);
        }
        these("count", all, new long[] {5, 1, 1, 2, 2, 4, 2, 1, 1, 0});
    }

    private static void fees() {
        Chipcardhouse house = Check.house();
        house.setHouse(0, 500, 1);
        house.pay(0, 0, 100000, 7);
        house.pay(0, 0, 419, 7);
        house.sends(0);
        house.passes(1);
        Check.due("none by day", house.fees(), 0);
        house.endDay();
        Check.due("5 % of 419, rounded down", house.fees(), 20);
        // above what an int holds on the way: 8 times 100000 and more, times 500
        Chipcardhouse rich = new Chipcardhouse();
        rich.account(9000000);
        rich.shop(0, 0);
        rich.card(0, 7, 0, 0);
        rich.setHouse(0, 500, 1);
        for (int i = 0; i < 90; i++) {
            rich.pay(0, 0, 100000, 7);
        }
        rich.passes(2);
        Check.due("all is sent", rich.sends(0), 90);
        rich.passes(1);
        rich.endDay();
        Check.due("5 % of 9000000", rich.fees(), 450000);
        Check.due("the rest", rich.shopAt(0, 0), 8550000);
    }

    private static void means() {
        Chipcardhouse house = busyHouse();
        Check.due("the mean of shop 0", house.meanPayment(0) == 100.0, true);
        Check.due("of shop 1 the granted one alone", house.meanPayment(1) == 700.0, true);
        Check.due("two of three", house.grantedShare() == 2.0f / 3.0f, true);
        house.pay(0, 0, 1, 7);
        house.pay(0, 0, 3, 7);
        house.pay(0, 0, 501, 7);
        Check.due("the mean of three", house.meanPayment(0) == 104.0 / 3.0, true);
        Check.due("four of six", house.grantedShare() == 4.0f / 6.0f, true);
        house.shop(0, 0);
        Check.due("no payment", house.meanPayment(2) == 0.0, true);
        house.pay(0, 2, 5, 7);
        Check.due("none granted", house.meanPayment(2) == 0.0, true);
        house.setOpen(false);
        house.pay(1, 2, 7, 8);
        house.passes(2);
        Check.due("granted by the switch", house.meanPayment(2) == 6.0, true);
    }

    private static void checksum() {
        Chipcardhouse house = busyHouse();
        long sum = 0;
        sum = 31 * sum + 0 + 7 * 100 + 3 * 1;
        sum = 31 * sum + 2 + 7 * 700 + 3 * 1;
        sum = 31 * sum + 3 + 7 * 20000 + 3 * 2;
        Check.due("three payments", house.checksum(), sum);
        house.sends(0);
        house.passes(1);
        Check.due("the first is posted", house.checksum(), sum + 31 * 31 * 1000);
        long round = 0;
        Chipcardhouse long1 = Check.house();
        for (int i = 1; i <= 30; i++) {
            long1.pay(0, 0, 90000 + i, 7);
            round = 31 * round + 1 + 7 * (90000 + i) + 3 * i;
        }
        Check.due("it goes round", long1.checksum(), round);
    }

    private static void errors() {
        Chipcardhouse house = busyHouse();
        Check.due("errors", house.errors(), 0);
        house.forge(0, 0, 2);
        house.forge(0, 0, 0);
        house.passes(1);
        Check.due("a denied payment's number is posted", house.knows(2, 2), 1);
        Check.due("its state", house.paymentAt(2, 0), 3);
        Check.due("there was a thief", house.errors(), 0);
    }

    private static void questionsChangeNothing() {
        Chipcardhouse house = busyHouse();
        String before = Check.stateOf(house);
        house.errors();
        house.checksum();
        house.grantedShare();
        house.meanPayment(0);
        house.fault();
        Check.due("nothing is changed", before.equals(Check.stateOf(house)), true);
    }
}
