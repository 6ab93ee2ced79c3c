/** Promises 9 to 12: payments, batches, money back, copied records. */
public final class PayTest {
    private static final int TOUCH = Chipcardhouse.NONE;

    public static void main(String[] args) {
        payWrong();
        refusals();
        pins();
        touches();
        cardGrants();
        floorAndPick();
        stamps();
        grantedByIssuer();
        denied();
        givenUp();
        paidBehindGivingUp();
        answerAtTheLastTick();
        twoHundred();
        sends();
        backMoney();
        forge();
        forgedIsPosted();
        Check.finish("PayTest");
    }

    private static void payWrong() {
        Chipcardhouse house = Check.house();
        Check.none("card -1", house, () -> house.pay(-1, 0, 0, 7));
        Check.none("card 1", house, () -> house.pay(1, 0, 1, 7));
        Check.none("shop -1", house, () -> house.pay(0, -1, 1, 7));
        Check.none("shop 1", house, () -> house.pay(0, 1, 0, -2));
        Check.bad("amount 0", house, () -> house.pay(0, 0, 0, 7));
        Check.bad("amount 100001", house, () -> house.pay(0, 0, 100001, 7));
        Check.bad("pin -2", house, () -> house.pay(0, 0, 1, -2));
        Check.bad("pin 10000", house, () -> house.pay(0, 0, 1, 10000));
        Check.due("the least", house.pay(0, 0, 1, 7), 0);
        Check.due("the greatest", house.pay(0, 0, 100000, 7), 1);
    }

    private static void refusals() {
        Chipcardhouse house = Check.house();
        house.tells(0, 2);
        house.pay(0, 0, 501, 7);
        house.passes(2);
        Check.due("dead", house.cardAt(0, 5), 1);
        String before = Check.stateOf(house);
        Check.due("a dead card with a PIN", house.pay(0, 0, 5, 7), -1);
        Check.due("with a wrong one", house.pay(0, 0, 5, 8), -1);
        Check.due("touching", house.pay(0, 0, 2501, TOUCH), -1);
        Check.due("nothing is changed", before.equals(Check.stateOf(house)), true);
    }

    private static void pins() {
        Chipcardhouse house = Check.house();
        Check.due("wrong", house.pay(0, 0, 5, 8), -3);
        Check.due("two tries", house.cardAt(0, 1), 2);
        Check.due("wrong again", house.pay(0, 0, 5, 8), -3);
        Check.due("touching tells nothing of the PIN", house.pay(0, 0, 5, TOUCH), 0);
        Check.due("one try", house.cardAt(0, 1), 1);
        Check.due("right", house.pay(0, 0, 5, 7), 1);
        Check.due("three tries", house.cardAt(0, 1), 3);
        Check.due("no touches", house.cardAt(0, 2), 0);
        for (int i = 0; i < 3; i++) {
            Check.due("wrong", house.pay(0, 0, 5, 8), -3);
        }
        Check.due("no try", house.pay(0, 0, 5, 8), -2);
        Check.due("no try for the right one", house.pay(0, 0, 5, 7), -2);
        Check.due("touching works", house.pay(0, 0, 5, TOUCH), 2);
        Check.due("the refused have no counter", house.cardAt(0, 0), 3);
        Check.due("nor are they payments", house.count(5), 3);
    }

    private static void touches() {
        Chipcardhouse house = Check.house();
        Check.due("2501", house.pay(0, 0, 2501, TOUCH), -4);
        Check.due("2500", house.pay(0, 0, 2500, TOUCH), 0);
        Check.due("a touch that asks is a touch", house.cardAt(0, 2), 1);
        for (int i = 1; i < 5; i++) {
            Check.due("touch " + i, house.pay(0, 0, 1, TOUCH), i);
        }
        Check.due("a sixth", house.pay(0, 0, 1, TOUCH), -4);
        house.passes(2);
        Check.due("the first is granted by the issuer", house.paymentAt(0, 8), 1);
        Check.due("so there are no touches", house.cardAt(0, 2), 0);
        Check.due("and no count", house.cardAt(0, 3), 0);
        Check.due("and no sum", house.cardAt(0, 4), 0);
        Check.due("a touch again", house.pay(0, 0, 1, TOUCH), 5);
        Check.due("a PIN", house.pay(0, 0, 2501, 7), 6);
        Check.due("no touches", house.cardAt(0, 2), 0);
    }

    private static void cardGrants() {
        Chipcardhouse house = new Chipcardhouse();
        house.account(100000);
        house.shop(50000, 0);
        house.card(0, 7, 2, 300);
        house.card(0, 7, 9, 300);
        house.card(0, 7, 0, 300);
        int[][] all = {{0, 100, 0}, {0, 100, 0}, {0, 1, 1}, {1, 200, 0}, {1, 101, 1}, {1, 100, 0}, {1, 1, 1}, {2, 1, 1}};
        for (int i = 0; i < all.length; i++) {
            Check.due("payment", house.pay(all[i][0], 0, all[i][1], 7), i);
            Check.due("its state " + i, house.paymentAt(i, 0), all[i][2]);
        }
        Check.due("the count of card 0", house.cardAt(0, 3), 2);
        Check.due("the sum of card 0", house.cardAt(0, 4), 200);
        Check.due("the count of card 1", house.cardAt(1, 3), 2);
        Check.due("the sum of card 1", house.cardAt(1, 4), 300);
        Check.due("what asks is on the line", house.shopAt(0, 4), 4);
        Check.due("the counter counts both", house.cardAt(1, 0), 4);
    }

    private static void floorAndPick() {
        Chipcardhouse house = new Chipcardhouse();
        house.account(100000);
        house.shop(50, 0);
        house.shop(50000, 2);
        house.shop(50000, 1);
        house.card(0, 7, 9, 100000);
        house.pay(0, 0, 50, 7);
        house.pay(0, 0, 51, 7);
        Check.due("the floor", house.paymentAt(0, 0), 0);
        Check.due("above it", house.paymentAt(1, 0), 1);
        for (int i = 0; i < 4; i++) {
            house.pay(0, 1, 5, 8);
            house.pay(0, 1, 5, 7);
            Check.due("each second of the shop asks", house.paymentAt(2 + i, 0), i % 2);
        }
        house.pay(0, 2, 5, 7);
        house.pay(0, 2, 5, 7);
        Check.due("a pick of 1: the first asks", house.paymentAt(6, 0), 1);
        Check.due("a pick of 1: the second asks", house.paymentAt(7, 0), 1);
        Check.due("what asks is not in the count", house.cardAt(0, 3), 3);
    }

    private static void stamps() {
        Chipcardhouse house = Check.house();
        house.card(0, 7, 9, 5000);
        house.shop(50, 0);
        house.pay(0, 0, 100, 7);
        house.pay(1, 1, 50, 7);
        house.pay(1, 1, 51, 7);
        Check.due("the stamp of the document's first run", house.paymentAt(0, 5), 86343);
        Check.due("PAID by card 1 at shop 1", house.paymentAt(1, 5), Check.stamp(1, 1, 50, 1, 1));
        Check.due("ASKED", house.paymentAt(2, 5), Check.stamp(1, 2, 51, 1, 2));
        house.passes(2);
        Check.due("GRANTED", house.paymentAt(2, 0), 2);
        Check.due("it is the stamp of the sort 2 still", house.paymentAt(2, 5), Check.stamp(1, 2, 51, 1, 2));
    }

    private static void grantedByIssuer() {
        Chipcardhouse house = Check.house();
        house.pay(0, 0, 400, TOUCH);
        house.pay(0, 0, 501, TOUCH);
        house.passes(1);
        Check.due("the ask came", house.knows(1, 0), 1);
        Check.due("it asks still", house.paymentAt(1, 0), 1);
        Check.due("the count stays", house.cardAt(0, 3), 1);
        house.passes(1);
        Check.due("granted", house.paymentAt(1, 0), 2);
        Check.due("by the issuer", house.paymentAt(1, 8), 1);
        Check.due("the count", house.cardAt(0, 3), 0);
        Check.due("the sum", house.cardAt(0, 4), 0);
        Check.due("the touches", house.cardAt(0, 2), 0);
        house.pay(0, 0, 300, TOUCH);
        house.setOpen(false);
        house.pay(0, 0, 600, TOUCH);
        house.passes(2);
        Check.due("granted by the switch", house.paymentAt(3, 8), 2);
        Check.due("its state", house.paymentAt(3, 0), 2);
        Check.due("the count stays", house.cardAt(0, 3), 1);
        Check.due("the sum stays", house.cardAt(0, 4), 300);
        Check.due("the touches stay", house.cardAt(0, 2), 2);
    }

    private static void denied() {
        Chipcardhouse house = Check.house();
        house.pay(0, 0, 400, TOUCH);
        house.pay(0, 0, 10001, 7);
        house.passes(2);
        Check.due("denied", house.paymentAt(1, 0), 3);
        Check.due("for what is free", house.paymentAt(1, 7), 6);
        Check.due("granted by nobody", house.paymentAt(1, 8), 0);
        Check.due("the count stays", house.cardAt(0, 3), 1);
        house.passes(20);
        Check.due("it is denied for good", house.paymentAt(1, 0), 3);
        Check.due("nothing is kept", house.shopAt(0, 3), 0);
    }

    private static void givenUp() {
        Chipcardhouse house = Check.house();
        house.faults(0, 0, 0, 1);
        house.pay(0, 0, 501, 7);
        house.passes(7);
        Check.due("it asks at the tick 7", house.paymentAt(0, 0), 1);
        Check.due("nothing is kept", house.shopAt(0, 3), 0);
        house.passes(1);
        Check.due("it is given up at the tick 8", house.paymentAt(0, 0), 4);
        Check.due("the take back is kept", house.shopAt(0, 3), 1);
        Check.due("and on the line", house.shopAt(0, 4), 1);
        house.passes(1);
        Check.due("taken back", house.knows(0, 3), 1);
        house.passes(1);
        Check.due("done", house.shopAt(0, 3), 0);
        Check.due("the stamp stays", house.paymentAt(0, 5), Check.stamp(0, 1, 501, 0, 2));
        Check.due("there is no batch", house.sends(0), 0);
    }

    private static void paidBehindGivingUp() {
        Chipcardhouse house = new Chipcardhouse();
        house.account(10000);
        house.shop(500, 1);
        house.card(0, 7, 2, 700);
        house.card(0, 7, 9, 700);
        house.faults(0, 0, 0, 5);
        house.pay(0, 0, 500, 7);
        house.pay(0, 0, 201, 7);
        house.pay(0, 0, 200, 7);
        house.pay(0, 0, 100, 7);
        house.pay(1, 0, 501, 7);
        house.passes(8);
        Check.due("500 is paid", house.paymentAt(0, 0), 0);
        Check.due("201 is too much for the sum", house.paymentAt(1, 0), 4);
        Check.due("200 is paid", house.paymentAt(2, 0), 0);
        Check.due("the count is full", house.paymentAt(3, 0), 4);
        Check.due("501 is above the floor", house.paymentAt(4, 0), 4);
        Check.due("the count", house.cardAt(0, 3), 2);
        Check.due("the sum", house.cardAt(0, 4), 700);
        Check.due("the stamp is of the sort 1, the counter the same", house.paymentAt(0, 5), Check.stamp(0, 1, 500, 0, 1));
        Check.due("five take backs", house.shopAt(0, 3), 5);
        Check.due("two records", house.sends(0), 2);
        house.passes(1);
        Check.due("a payment that was taken back is posted if it is PAID", house.knows(0, 2), 1);
        Check.due("the shop's", house.shopAt(0, 1), 700);
        Check.due("no error", house.errors(), 0);

        Chipcardhouse dead = new Chipcardhouse();
        dead.account(10000);
        dead.shop(500, 1);
        dead.card(0, 7, 9, 700);
        dead.tells(0, 2);
        dead.pay(0, 0, 5, 7);
        dead.faults(0, 0, 0, 1);
        dead.pay(0, 0, 5, 7);
        dead.passes(8);
        Check.due("a dead card grants nothing", dead.paymentAt(1, 0), 4);
    }

    private static void answerAtTheLastTick() {
        Chipcardhouse house = Check.house();
        house.setHouse(1000, 100, 4);
        house.pay(0, 0, 501, 7);
        house.passes(8);
        Check.due("the answer comes ahead of giving up", house.paymentAt(0, 0), 2);
        house.setHouse(1000, 100, 5);
        house.pay(0, 0, 502, 7);
        house.passes(8);
        Check.due("an answer at the tick 10 is late", house.paymentAt(1, 0), 4);
        Check.due("502 is held", house.knows(1, 1), 502);
        house.passes(2);
        Check.due("an answer to what is given up does nothing", house.paymentAt(1, 0), 4);
        house.passes(3);
        Check.due("nothing is held", house.knows(1, 1), 0);
    }

    private static void twoHundred() {
        Chipcardhouse house = Check.house();
        for (int i = 0; i < 199; i++) {
            Check.due("payment", house.pay(0, 0, 1, 7), i);
        }
        house.pay(0, 0, 1, 8);
        Check.due("the last", house.pay(0, 0, 1, TOUCH), 199);
        Check.due("two hundred", house.count(5), 200);
        Check.due("a wrong PIN comes first", house.pay(0, 0, 1, 8), -3);
        String before = Check.stateOf(house);
        Check.due("one more", house.pay(0, 0, 1, 7), -5);
        Check.due("one more by touching", house.pay(0, 0, 1, TOUCH), -5);
        Check.due("too much by touching", house.pay(0, 0, 2501, TOUCH), -4);
        Check.due("nothing is changed", before.equals(Check.stateOf(house)), true);
        Check.due("all that the card did not grant ask", house.shopAt(0, 4), 191);
        Check.due("the sum", house.checksum() != 0, true);
        house.passes(200);
        Check.due("the batch", house.sends(0), 200);
        house.passes(200);
        Check.due("all are posted", house.count(6), 200);
        Check.due("no error", house.errors(), 0);
    }

    private static void sends() {
        Chipcardhouse house = Check.house();
        house.shop(500, 0);
        Check.none("shop -1", house, () -> house.sends(-1));
        Check.none("shop 2", house, () -> house.sends(2));
        Check.due("no payment", house.sends(0), 0);
        house.pay(0, 0, 1, 7);
        house.pay(0, 1, 2, 7);
        house.pay(0, 0, 501, 7);
        house.pay(0, 0, 10002, 7);
        house.pay(0, 0, 4, 7);
        Check.due("what asks is not sent", house.sends(0), 2);
        Check.due("a record was sent", house.paymentAt(4, 9), 1);
        Check.due("none was sent of what asks", house.paymentAt(2, 9), 0);
        Check.due("none was sent of the other shop's", house.paymentAt(1, 9), 0);
        Check.due("nothing again", house.sends(0), 0);
        house.passes(2);
        Check.due("what was granted, not what was denied", house.sends(0), 1);
        Check.due("the other shop's", house.sends(1), 1);
        house.faults(0, 0, 0, 1);
        house.pay(0, 0, 3, 7);
        Check.due("a lost one counts as sent", house.sends(0), 1);
        Check.due("so it is not sent again", house.sends(0), 0);
        Check.due("it was sent", house.paymentAt(5, 9), 1);
    }

    private static void backMoney() {
        Chipcardhouse house = Check.house();
        house.shop(500, 0);
        house.pay(0, 0, 100, 7);
        house.pay(0, 1, 100, 7);
        Check.none("shop -1", house, () -> house.backMoney(-1, 0, 1));
        Check.none("shop 2", house, () -> house.backMoney(2, 0, 0));
        Check.none("payment -1", house, () -> house.backMoney(0, -1, 0));
        Check.none("payment 2", house, () -> house.backMoney(0, 2, 1));
        Check.bad("the other shop's", house, () -> house.backMoney(0, 1, 1));
        Check.bad("amount 0", house, () -> house.backMoney(0, 0, 0));
        Check.bad("amount 100001", house, () -> house.backMoney(0, 0, 100001));
        Check.due("ahead of the record", house.backMoney(0, 0, 5), 0);
        house.passes(2);
        house.sends(0);
        house.passes(2);
        Check.due("it did nothing, for good", house.knows(0, 6), 100);
        Check.due("the next", house.backMoney(0, 0, 100000), 1);
        Check.due("the other shop's first", house.backMoney(1, 1, 1), 0);
        Check.due("the next", house.backMoney(0, 0, 60), 2);
        Check.due("more than is left then", house.backMoney(0, 0, 41), 3);
        Check.due("what was sent behind the first is kept", house.shopAt(0, 3), 3);
        house.passes(1);
        Check.due("40 are left", house.knows(0, 6), 40);
        Check.due("60 went back", house.accountAt(0, 0), 9960);
        Check.due("from what stands in between", house.shopAt(0, 1), 40);
        house.passes(1);
        Check.due("all are done", house.shopAt(0, 3), 0);
        house.endDay();
        house.backMoney(0, 0, 40);
        house.passes(1);
        Check.due("nothing is left", house.knows(0, 6), 0);
        Check.due("it can be below 0", house.shopAt(0, 1), -40);
        for (int i = 5; i < 100; i++) {
            Check.due("number", house.backMoney(0, 0, 1), i);
        }
        Check.late("a hundred were sent", house, () -> house.backMoney(0, 0, 1));
        Check.bad("a hundred and a wrong amount", house, () -> house.backMoney(0, 0, 0));
        Check.due("the other shop sends on", house.backMoney(1, 1, 1), 1);
        Check.due("no error", house.errors(), 0);
    }

    private static void forge() {
        Chipcardhouse house = Check.house();
        house.shop(500, 0);
        Check.none("no payment", house, () -> house.forge(0, 0, 0));
        house.pay(0, 0, 100, 7);
        house.pay(0, 0, 501, 7);
        Check.none("shop 2", house, () -> house.forge(2, 0, 1000));
        Check.none("shop -1", house, () -> house.forge(-1, 0, 0));
        Check.none("payment -1", house, () -> house.forge(0, -1, 0));
        Check.none("payment 2", house, () -> house.forge(0, 2, 1000));
        Check.bad("as -1", house, () -> house.forge(0, 0, -1));
        Check.bad("as 1000", house, () -> house.forge(0, 0, 1000));
        Check.due("the stamp of a PAID one", house.forge(1, 0, 999), Check.stamp(0, 1, 100, 0, 1));
        Check.due("the stamp of an ASKING one", house.forge(0, 1, 998), Check.stamp(0, 2, 501, 0, 2));
        Check.due("they are on the line", house.shopAt(1, 4), 1);
        Check.due("nobody keeps them", house.shopAt(1, 3), 0);
        Check.due("nothing was sent by the shop", house.paymentAt(0, 9), 0);
        house.passes(1);
        Check.due("the stamp is not right for the other shop", house.knows(999, 4), 1);
        Check.due("nor is that of the sort 2", house.knows(998, 4), 1);
        house.passes(1);
        Check.due("granted by the issuer", house.paymentAt(1, 0), 2);
        house.forge(0, 1, 1);
        house.passes(1);
        Check.due("a copy tells PAID, whatever the payment is", house.knows(1, 4), 1);
        house.sends(0);
        house.passes(1);
        Check.due("it is rejected, and posted by its own record", house.knows(1, 2), 1);
        Check.due("it stays rejected", house.knows(1, 4), 1);
        Check.due("rejected numbers", house.count(7), 3);
        Check.due("no error", house.errors(), 0);
    }

    private static void forgedIsPosted() {
        Chipcardhouse house = Check.house();
        house.pay(0, 0, 100, 7);
        house.pay(0, 0, 50, 7);
        house.faults(0, 0, 0, 2);
        house.sends(0);
        house.forge(0, 0, 0);
        house.forge(0, 1, 500);
        Check.due("two are kept", house.shopAt(0, 3), 2);
        house.passes(1);
        Check.due("the copy is posted", house.knows(0, 2), 1);
        Check.due("under the other number", house.knows(500, 2), 1);
        Check.due("its day", house.knows(500, 7), 0);
        Check.due("two are done on the way down", house.shopAt(0, 5), 2);
        house.passes(1);
        Check.due("but nobody hears that", house.shopAt(0, 3), 2);
        house.passes(8);
        Check.due("they are sent again", house.shopAt(0, 4), 2);
        house.passes(2);
        Check.due("and done", house.shopAt(0, 3), 0);
        Check.due("the counter was posted of another number", house.knows(1, 2), 0);
        Check.due("so it is rejected", house.knows(1, 4), 1);
        Check.due("each is paid once", house.accountAt(0, 0), 9850);
        Check.due("what is back of number 1 goes nowhere", house.backMoney(0, 1, 5), 0);
        house.passes(2);
        Check.due("nothing went back", house.accountAt(0, 0), 9850);
        Check.due("no error", house.errors(), 0);

        Chipcardhouse ahead = Check.house();
        ahead.pay(0, 0, 100, 7);
        ahead.forge(0, 0, 1);
        ahead.passes(1);
        ahead.tells(0, 1);
        ahead.faults(0, 0, 1, 1);
        ahead.pay(0, 0, 501, 7);
        ahead.passes(1);
        Check.due("an ask of a number that is posted", ahead.knows(1, 0), 2);
        Check.due("it takes what is told", ahead.tells(0, 2), 1);
        ahead.passes(1);
        Check.due("denied with 7", ahead.paymentAt(1, 7), 7);
        Check.due("its counter was not heard", ahead.cardAt(0, 8), 0);
        Check.due("the same answer to the double", ahead.cardAt(0, 5), 0);
        Check.due("no error with a thief", ahead.errors(), 0);
    }
}
