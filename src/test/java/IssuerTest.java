/** Promises 16 to 20: what the issuer tells, stolen cards, frozen accounts, disputes and days. */
public final class IssuerTest {
    private static final int TOUCH = Chipcardhouse.NONE;

    public static void main(String[] args) {
        tells();
        toldWithDenial();
        toldToWhatIsGivenUp();
        stolen();
        freeze();
        orderOfReasons();
        free();
        takeBack();
        dispute();
        disputeOfForged();
        disputeOfDays();
        endDay();
        endDayBelowZero();
        Check.finish("IssuerTest");
    }

    private static void tells() {
        Chipcardhouse house = Check.house();
        Check.none("card -1", house, () -> house.tells(-1, 1));
        Check.none("card 1", house, () -> house.tells(1, 0));
        Check.bad("0", house, () -> house.tells(0, 0));
        Check.bad("4", house, () -> house.tells(0, 4));
        Check.bad("-1", house, () -> house.tells(0, -1));
        Check.due("one thing", house.tells(0, 3), 1);
        Check.due("the same", house.tells(0, 3), 1);
        Check.due("two", house.tells(0, 1), 2);
        Check.due("three", house.tells(0, 2), 3);
        house.pay(0, 0, 501, 7);
        house.pay(0, 0, 502, 7);
        house.pay(0, 0, 5, 8);
        house.passes(1);
        Check.due("nothing is done yet", house.cardAt(0, 6), 9);
        Check.due("the first answer took all", house.tells(0, 1), 1);
        house.passes(1);
        Check.due("tries", house.cardAt(0, 1), 3);
        Check.due("dead", house.cardAt(0, 5), 1);
        Check.due("the greatest count", house.cardAt(0, 6), 0);
        Check.due("both are granted", house.paymentAt(1, 0), 2);
    }

    private static void toldWithDenial() {
        Chipcardhouse house = Check.house();
        house.tells(0, 3);
        house.pay(0, 0, 20000, 7);
        house.passes(2);
        Check.due("denied", house.paymentAt(0, 7), 6);
        Check.due("told all the same", house.cardAt(0, 6), 0);
        Check.due("nothing waits", house.tells(0, 2), 1);
        house.pay(0, 0, 5, 7);
        Check.due("it grants nothing now", house.paymentAt(1, 0), 1);
    }

    private static void toldToWhatIsGivenUp() {
        Chipcardhouse house = Check.house();
        house.faults(0, 1, 2, 1);
        house.setHouse(1000, 100, 4);
        house.tells(0, 2);
        house.pay(0, 0, 501, 7);
        house.passes(12);
        Check.due("given up", house.paymentAt(0, 0), 4);
        Check.due("what is told in vain is not done", house.cardAt(0, 5), 0);
        Check.due("nor does it wait", house.tells(0, 1), 1);
    }

    private static void stolen() {
        Chipcardhouse house = Check.house();
        Check.none("card -1", house, () -> house.stolen(-1));
        Check.none("card 1", house, () -> house.stolen(1));
        Check.due("it did not know", house.stolen(0), false);
        Check.due("it knew", house.stolen(0), true);
        house.pay(0, 0, 501, 7);
        house.pay(0, 0, 5, 7);
        house.sends(0);
        house.passes(2);
        Check.due("denied with 4", house.paymentAt(0, 7), 4);
        Check.due("the issuer knows its answer", house.knows(0, 0), 2);
        Check.due("the counter is heard", house.cardAt(0, 8), 1);
        Check.due("nothing is held", house.knows(0, 1), 0);
        Check.due("what the card granted is posted", house.knows(1, 2), 1);
    }

    private static void freeze() {
        Chipcardhouse house = Check.house();
        Check.none("account -1", house, () -> house.freeze(-1, true));
        Check.none("account 1", house, () -> house.freeze(1, false));
        Check.due("it was not", house.freeze(0, true), false);
        Check.due("it was", house.freeze(0, true), true);
        Check.due("it is", house.accountAt(0, 3), 1);
        house.pay(0, 0, 501, 7);
        house.passes(2);
        Check.due("denied with 5", house.paymentAt(0, 7), 5);
        Check.due("the counter is heard", house.cardAt(0, 8), 1);
        Check.due("it was still", house.freeze(0, false), true);
        Check.due("it was not any more", house.freeze(0, false), false);
        house.pay(0, 0, 501, 7);
        house.passes(2);
        Check.due("granted", house.paymentAt(1, 0), 2);
    }

    private static void orderOfReasons() {
        Chipcardhouse house = Check.house();
        house.stolen(0);
        house.freeze(0, true);
        house.pay(0, 0, 20000, 7);
        house.passes(2);
        Check.due("stolen, frozen and too much", house.paymentAt(0, 7), 4);
        house.card(0, 7, 0, 0);
        house.pay(1, 0, 20000, 7);
        house.passes(2);
        Check.due("frozen and too much", house.paymentAt(1, 7), 5);
    }

    private static void free() {
        Chipcardhouse house = Check.house();
        house.card(0, 7, 0, 0);
        house.pay(0, 0, 6000, 7);
        house.pay(1, 0, 4001, 7);
        house.pay(1, 0, 4000, 7);
        house.passes(1);
        Check.due("6000", house.knows(0, 0), 1);
        Check.due("4001 are not free", house.knows(1, 0), 2);
        Check.due("4000 are", house.knows(2, 0), 1);
        Check.due("held", house.accountAt(0, 1), 10000);
        Check.due("free", house.accountAt(0, 2), 0);
        Check.due("the balance", house.accountAt(0, 0), 10000);
        Check.due("both of card 1 are heard", house.cardAt(1, 8), 2);
    }

    private static void takeBack() {
        Chipcardhouse house = Check.house();
        house.faults(0, 1, 0, 1);
        house.pay(0, 0, 501, 7);
        house.passes(8);
        Check.due("held", house.knows(0, 1), 501);
        house.passes(1);
        Check.due("not held", house.knows(0, 1), 0);
        Check.due("taken back", house.knows(0, 3), 1);
        Check.due("it had answered", house.knows(0, 0), 1);
        Check.due("nothing is held of the account", house.accountAt(0, 1), 0);
        // of a payment that is posted the take back is nothing, but the hold of its own is gone
        Chipcardhouse posted = Check.house();
        posted.pay(0, 0, 5, 7);
        posted.faults(0, 0, 0, 1);
        posted.pay(0, 0, 501, 7);
        posted.forge(0, 0, 1);
        posted.passes(10);
        Check.due("posted", posted.knows(1, 2), 1);
        Check.due("not taken back", posted.knows(1, 3), 0);
        Check.due("done", posted.shopAt(0, 3), 0);
        Check.due("no error", posted.errors(), 0);
    }

    private static void dispute() {
        Chipcardhouse house = Check.house();
        Check.none("no payment", house, () -> house.dispute(0));
        house.pay(0, 0, 100, TOUCH);
        house.pay(0, 0, 200, 7);
        house.pay(0, 0, 300, TOUCH);
        Check.none("payment -1", house, () -> house.dispute(-1));
        Check.none("payment 3", house, () -> house.dispute(3));
        Check.late("not posted", house, () -> house.dispute(0));
        house.sends(0);
        house.backMoney(0, 0, 30);
        house.passes(2);
        Check.due("what is left", house.dispute(0), 70);
        Check.due("nothing is left", house.knows(0, 6), 0);
        Check.due("the balance", house.accountAt(0, 0), 9500);
        Check.due("in between", house.shopAt(0, 1), 500);
        Check.due("it is posted still", house.knows(0, 2), 1);
        Check.late("disputed already", house, () -> house.dispute(0));
        Check.late("paid with a PIN", house, () -> house.dispute(1));
        house.backMoney(0, 0, 1);
        house.backMoney(0, 2, 300);
        house.passes(2);
        Check.due("nothing goes back of a disputed one", house.accountAt(0, 0), 9800);
        Check.due("nothing is left of it", house.dispute(2), 0);
        Check.late("but it is disputed", house, () -> house.dispute(2));
        Check.due("no error", house.errors(), 0);
    }

    private static void disputeOfForged() {
        Chipcardhouse house = Check.house();
        house.account(500);
        house.card(1, 8, 9, 5000);
        house.shop(500, 0);
        house.pay(1, 1, 100, 8);
        house.forge(1, 0, 1);
        house.pay(0, 0, 60, TOUCH);
        house.passes(1);
        Check.due("the amount that was POSTED", house.dispute(1), 100);
        Check.due("to the account of the card of that record", house.accountAt(1, 0), 500);
        Check.due("from the shop on whose line it came", house.shopAt(1, 1), 0);
        Check.due("the other account", house.accountAt(0, 0), 10000);
        Check.due("the other shop", house.shopAt(0, 1), 0);
        Check.due("no error", house.errors(), 0);
    }

    private static void disputeOfDays() {
        Chipcardhouse house = Check.house();
        house.pay(0, 0, 1, TOUCH);
        house.pay(0, 0, 2, TOUCH);
        house.endDay();
        house.sends(0);
        house.passes(1);
        house.endDay();
        Check.due("on the day behind it", house.dispute(0), 1);
        house.endDay();
        Check.late("a day later", house, () -> house.dispute(1));
        Check.due("the day of posting", house.knows(1, 7), 1);
    }

    private static void endDay() {
        Chipcardhouse house = Check.house();
        Check.due("an empty day", house.endDay(), 1);
        house.shop(500, 0);
        house.setOpen(false);
        house.setOpen(true);
        for (int i = 0; i < 3; i++) {
            house.pay(0, 0, 133, 7);
        }
        house.pay(0, 1, 99, 7);
        house.sends(0);
        house.sends(1);
        house.passes(1);
        house.setOpen(false);
        Check.due("the second day, the issuer is closed", house.endDay(), 2);
        Check.due("1 % of 399 and of 99", house.fees(), 3);
        Check.due("the rest", house.shopAt(0, 0), 396);
        Check.due("the other's", house.shopAt(1, 0), 99);
        Check.due("nothing in between", house.shopAt(0, 1), 0);
        Check.due("a day of nothing", house.endDay(), 3);
        Check.due("the same fees", house.fees(), 3);
        house.setOpen(true);
        house.setHouse(1000, 500, 1);
        house.pay(0, 1, 39, 7);
        house.sends(1);
        house.passes(1);
        house.endDay();
        Check.due("5 % of 39, rounded down", house.fees(), 4);
        Check.due("38 more", house.shopAt(1, 0), 137);
        house.setHouse(1000, 0, 1);
        house.pay(0, 1, 200, 7);
        house.sends(1);
        house.passes(1);
        house.endDay();
        Check.due("no fee", house.fees(), 4);
        Check.due("200 more", house.shopAt(1, 0), 337);
        Check.due("the day", house.count(1), 5);
        Check.due("no error", house.errors(), 0);
    }

    private static void endDayBelowZero() {
        Chipcardhouse house = Check.house();
        house.setHouse(1000, 500, 1);
        house.pay(0, 0, 100, 7);
        house.pay(0, 0, 40, 7);
        house.sends(0);
        house.passes(1);
        house.endDay();
        Check.due("140 less 7", house.shopAt(0, 0), 133);
        house.backMoney(0, 0, 100);
        house.passes(1);
        Check.due("in between", house.shopAt(0, 1), -100);
        house.endDay();
        Check.due("the shop gives it", house.shopAt(0, 0), 33);
        Check.due("nothing in between", house.shopAt(0, 1), 0);
        Check.due("no fee", house.fees(), 7);
        house.backMoney(0, 1, 40);
        house.passes(1);
        house.endDay();
        Check.due("as much as the shop has", house.shopAt(0, 0), 0);
        Check.due("the rest lacks", house.shopAt(0, 1), -7);
        house.endDay();
        Check.due("still", house.shopAt(0, 1), -7);
        house.pay(0, 0, 27, 7);
        house.sends(0);
        house.passes(1);
        house.endDay();
        Check.due("20 less 1", house.shopAt(0, 0), 19);
        Check.due("8 in all", house.fees(), 8);
        Check.due("no error", house.errors(), 0);
    }
}
