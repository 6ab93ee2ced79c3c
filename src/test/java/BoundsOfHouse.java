/** Boundary cases of sections 0 to 2 and of the promises 1 and 5 to 8: the house, what there is, cards. */
final class BoundsOfHouse {
    private static final int TOUCH = Chipcardhouse.NONE;

    private BoundsOfHouse() {
    }

    static void run() {
        theTime();
        whatThereIs();
        exceptions();
        theCards();
        newObject();
        promisesOfAccount();
        promisesOfShop();
        promisesOfCard();
        promisesOfSetHouse();
    }

    /** Two accounts, two shops with a pick of 1, and a card of each account: all payments ask. */
    private static Chipcardhouse askingHouse() {
        Chipcardhouse house = new Chipcardhouse();
        house.account(1000);
        house.account(1000);
        house.shop(500, 1);
        house.shop(500, 1);
        house.card(0, 7, 9, 5000);
        house.card(1, 7, 9, 5000);
        return house;
    }

    // ---- sections 0 and 1

    private static void theTime() {
        calls();
        lastTick();
        firstTick();
        tickBecomesOneMore();
        shopByShop();
        upThenDown();
        terminalsLookByNumber();
        lookingIsBehindComing();
    }

    private static void calls() {
        Bound.term(0, 31, "An object is used for at most 512 calls after it has been made");
        Chipcardhouse house = Check.house();
        house.pay(0, 0, 5, 7);
        for (int call = 5; call <= 509; call++) {
            house.forge(0, 0, call);
        }
        Check.due("the call 510", house.passes(1), 1);
        Check.due("the call 511", house.count(6), 1);
        Check.due("the call 512", house.count(7), 504);
    }

    private static void lastTick() {
        Bound.term(1, 13, "Time passes in ticks, numbered from 0, at most 3000");
        Chipcardhouse house = new Chipcardhouse();
        Check.due("the first number", house.count(0), 0);
        for (int i = 1; i <= 14; i++) {
            Check.due("200 more", house.passes(200), 200 * i);
        }
        Check.due("one to the last", house.passes(199), 2999);
        Check.late("two at 2999", house, () -> house.passes(2));
        Check.due("one at 2999", house.passes(1), 3000);
        Check.late("one at 3000", house, () -> house.passes(1));
        Check.due("the last number", house.count(0), 3000);
        Check.type(house, "wait 1;day;");
        Check.due("by a text it is left out", house.play(), 1);
        Check.due("the last number still", house.count(0), 3000);
    }

    private static void firstTick() {
        Bound.term(1, 1, "the house begins at the tick 0 of the day 0");
        Chipcardhouse house = Check.house();
        Check.due("the tick", house.count(0), 0);
        Check.due("the day", house.count(1), 0);
        house.pay(0, 0, 5, 7);
        Check.due("the tick of a payment", house.paymentAt(0, 6), 0);
        house.forge(0, 0, 0);
        house.passes(1);
        Check.due("the day of posting", house.knows(0, 7), 0);
    }

    private static void tickBecomesOneMore() {
        Bound.term(1, 13, "(a) the number of the tick becomes 1 more");
        Chipcardhouse house = Check.house();
        house.pay(0, 0, 501, 7);
        Check.due("nothing comes at the tick at which it was put", house.shopAt(0, 4), 1);
        Check.due("the tick 1", house.passes(1), 1);
        Check.due("it came at the tick 1", house.shopAt(0, 4), 0);
        Check.due("the tick 1", house.count(0), 1);
    }

    private static void shopByShop() {
        Bound.term(1, 13, "(b) what comes at this tick comes, shop by shop by their numbers");
        Chipcardhouse house = Check.house();
        house.shop(500, 0);
        house.pay(0, 1, 6000, 7);
        house.pay(0, 0, 5000, 7);
        house.passes(1);
        Check.due("what shop 0 put later came first", house.knows(1, 0), 1);
        Check.due("then too little was free for shop 1", house.knows(0, 0), 2);
    }

    private static void upThenDown() {
        Bound.term(1, 13, "of each first what comes up, then what comes down");
        Chipcardhouse house = Check.house();
        house.pay(0, 0, 501, 7);
        house.passes(1);
        Check.due("the answer is put at the tick 1", house.shopAt(0, 5), 1);
        Check.due("and did not come at it", house.paymentAt(0, 0), 1);
        house.passes(1);
        Check.due("it came at the tick 2", house.paymentAt(0, 0), 2);
        Check.due("nothing is on the line", house.shopAt(0, 5), 0);
    }

    private static void terminalsLookByNumber() {
        Bound.term(1, 13, "(c) terminals look at the time, by their numbers");
        Chipcardhouse house = new Chipcardhouse();
        house.account(1000);
        house.shop(500, 1);
        house.shop(500, 1);
        house.card(0, 7, 1, 5000);
        house.faults(0, 0, 0, 1);
        house.faults(1, 0, 0, 1);
        house.pay(0, 1, 10, 7);
        house.pay(0, 0, 20, 7);
        house.passes(8);
        Check.due("the card grants the payment of shop 0", house.paymentAt(1, 0), 0);
        Check.due("and none more, to shop 1", house.paymentAt(0, 0), 4);
    }

    private static void lookingIsBehindComing() {
        Bound.term(1, 13, "When a tick passes, these things happen in this order");
        Chipcardhouse house = askingHouse();
        house.card(0, 7, 1, 5000);
        house.setHouse(1000, 100, 4);
        house.pay(2, 1, 10, 7);
        house.faults(0, 0, 0, 1);
        house.pay(2, 0, 20, 7);
        house.passes(8);
        Check.due("an answer at shop 1 comes ahead of shop 0's looking", house.paymentAt(0, 0), 2);
        Check.due("so shop 0's payment has the count", house.cardAt(2, 3), 1);
        Check.due("shop 0's payment is PAID", house.paymentAt(1, 0), 0);
    }

    // ---- section 1: what there is

    private static void whatThereIs() {
        accounts();
        balanceBelowZero();
        frozen();
        free();
        shops();
        moneyOfShop();
        moneyOfHouse();
        inBetween();
        cards();
        severalCardsOfAnAccount();
    }

    private static void accounts() {
        Bound.term(1, 5, "ACCOUNTS: at most 8, numbered from 0");
        Chipcardhouse house = new Chipcardhouse();
        Check.due("none", house.count(2), 0);
        for (int i = 0; i < 8; i++) {
            Check.due("account " + i, house.account(i), i);
            Check.due("so many", house.count(2), i + 1);
        }
        Check.late("a ninth", house, () -> house.account(8));
        Check.none("number 8", house, () -> house.accountAt(8, 0));
        Chipcardhouse text = new Chipcardhouse();
        Check.type(text, "account 1;account 2;account 3;account 4;account 5;account 6;account 7;account 8;account 9;");
        Check.due("the ninth of a text is left out", text.play(), 8);
        Check.due("the eighth is the last", text.accountAt(7, 0), 8);
    }

    private static void balanceBelowZero() {
        Bound.term(1, 9, "each with a balance, which can be below 0 by payments that were granted without asking");
        Chipcardhouse house = new Chipcardhouse();
        house.account(100);
        house.shop(500, 0);
        house.card(0, 7, 9, 5000);
        house.pay(0, 0, 100, 7);
        house.sends(0);
        house.passes(2);
        Check.due("all is gone", house.accountAt(0, 0), 0);
        house.pay(0, 0, 501, 7);
        house.pay(0, 0, 1, 7);
        house.sends(0);
        house.passes(2);
        Check.due("what asks is denied", house.paymentAt(1, 7), 6);
        Check.due("what does not ask is posted", house.accountAt(0, 0), -1);
        house.pay(0, 0, 500, 7);
        house.sends(0);
        house.passes(2);
        Check.due("farther below", house.accountAt(0, 0), -501);
        Check.due("no error", house.errors(), 0);
    }

    private static void frozen() {
        Bound.term(1, 18, "it can be frozen");
        Chipcardhouse house = askingHouse();
        house.freeze(1, true);
        Check.due("account 0 is not", house.accountAt(0, 3), 0);
        Check.due("account 1 is", house.accountAt(1, 3), 1);
        house.pay(0, 0, 5, 7);
        house.pay(1, 0, 5, 7);
        house.passes(2);
        Check.due("account 0 pays", house.paymentAt(0, 0), 2);
        Check.due("account 1 does not", house.paymentAt(1, 7), 5);
    }

    private static void free() {
        Bound.term(1, 24, "free is the balance less what is held");
        Chipcardhouse house = askingHouse();
        Check.due("nothing is held", house.accountAt(0, 2), 1000);
        house.pay(0, 0, 999, 7);
        house.passes(1);
        Check.due("999 are held", house.accountAt(0, 1), 999);
        Check.due("1 is free", house.accountAt(0, 2), 1);
        house.pay(0, 0, 1, 7);
        house.passes(1);
        Check.due("what is held is a part of the balance", house.accountAt(0, 0), 1000);
        Check.due("nothing is free", house.accountAt(0, 2), 0);
        house.setOpen(false);
        house.pay(0, 0, 1, 7);
        house.passes(1);
        house.setOpen(true);
        Check.due("a note holds one more", house.accountAt(0, 1), 1001);
        Check.due("free is below 0", house.accountAt(0, 2), -1);
        Check.due("the other account is as before", house.accountAt(1, 2), 1000);
    }

    private static void shops() {
        Bound.term(1, 6, "SHOPS: at most 4, numbered from 0, each with one terminal");
        Chipcardhouse house = new Chipcardhouse();
        Check.due("none", house.count(3), 0);
        for (int i = 0; i < 4; i++) {
            Check.due("shop " + i, house.shop(i, i), i);
            Check.due("so many", house.count(3), i + 1);
        }
        Check.late("a fifth", house, () -> house.shop(0, 0));
        Check.none("number 4", house, () -> house.shopAt(4, 0));
        Chipcardhouse text = new Chipcardhouse();
        Check.type(text, "shop 1 1;shop 2 2;shop 3 3;shop 4 4;shop 5 5;");
        Check.due("the fifth of a text is left out", text.play(), 4);
    }

    private static void moneyOfShop() {
        Bound.term(1, 25, "with money that it was paid");
        Chipcardhouse house = Check.house();
        Check.due("none at first", house.shopAt(0, 0), 0);
        house.pay(0, 0, 100, 7);
        house.sends(0);
        house.passes(1);
        Check.due("none before the day ends", house.shopAt(0, 0), 0);
        house.endDay();
        Check.due("then it was paid", house.shopAt(0, 0), 99);
    }

    private static void moneyOfHouse() {
        Bound.term(1, 27, "The house has money from fees.");
        Chipcardhouse house = Check.house();
        Check.due("none at first", house.fees(), 0);
        house.endDay();
        Check.due("none of an empty day", house.fees(), 0);
        house.pay(0, 0, 100, 7);
        house.sends(0);
        house.passes(1);
        Check.due("none before the day ends", house.fees(), 0);
        house.endDay();
        Check.due("then 1", house.fees(), 1);
    }

    private static void inBetween() {
        Bound.term(1, 25, "Money that was posted and not settled yet stands in between.");
        Chipcardhouse house = Check.house();
        Check.due("none at first", house.shopAt(0, 1), 0);
        house.pay(0, 0, 100, 7);
        house.sends(0);
        Check.due("none before it is posted", house.shopAt(0, 1), 0);
        house.passes(1);
        Check.due("it was posted", house.shopAt(0, 1), 100);
        house.endDay();
        Check.due("it is settled", house.shopAt(0, 1), 0);
    }

    private static void cards() {
        Bound.term(1, 7, "CARDS: at most 8, numbered from 0, each of an account");
        Chipcardhouse house = new Chipcardhouse();
        house.account(10);
        Check.due("none", house.count(4), 0);
        for (int i = 0; i < 8; i++) {
            Check.due("card " + i, house.card(0, 7, 1, 1), i);
            Check.due("so many", house.count(4), i + 1);
        }
        Check.late("a ninth", house, () -> house.card(0, 7, 1, 1));
        Check.none("number 8", house, () -> house.cardAt(8, 0));
    }

    private static void severalCardsOfAnAccount() {
        Bound.term(1, 7, "an account can have several");
        Chipcardhouse house = askingHouse();
        house.card(1, 7, 0, 0);
        house.pay(1, 0, 600, 7);
        house.pay(2, 0, 400, 7);
        house.pay(2, 0, 1, 7);
        house.passes(1);
        Check.due("two cards hold of one account", house.accountAt(1, 1), 1000);
        Check.due("the last payment is too much", house.knows(2, 0), 2);
        Check.due("an account without a payment of its card", house.accountAt(0, 1), 0);
        house.account(7);
        Check.due("an account without a card", house.accountAt(2, 2), 7);
    }

    // ---- section 1: exceptions

    private static void exceptions() {
        severalExceptions();
        refusedCallChangesNothing();
        doesNotExist();
    }

    private static void severalExceptions() {
        Bound.term(1, 7, "If several exceptions apply to a call, the one that is listed first is thrown");
        Chipcardhouse house = fullHouse();
        Check.bad("type: a bad sign, and the text is full", house, () -> house.type(1));
        Check.bad("account: out of range, and there are 8", house, () -> house.account(9000001));
        Check.bad("shop: out of range, and there are 4", house, () -> house.shop(50001, 0));
        Check.none("card: no account, out of range, and there are 8", house, () -> house.card(8, 10000, 0, 0));
        Check.none("card: no account, and there are 8", house, () -> house.card(-1, 0, 0, 0));
        Check.bad("card: out of range, and there are 8", house, () -> house.card(0, 0, 10, 0));
        Check.none("pay: no card, and out of range", house, () -> house.pay(8, 0, 0, 7));
        Check.none("pay: no shop, and out of range", house, () -> house.pay(0, 4, 1, 10000));
        Check.none("backMoney: no payment, out of range, 100", house, () -> house.backMoney(0, 200, 0));
        Check.none("backMoney: no shop, out of range", house, () -> house.backMoney(4, 0, 0));
        Check.bad("backMoney: out of range, and 100", house, () -> house.backMoney(0, 0, 100001));
        Check.bad("backMoney: not of this shop, and 100", house, () -> house.backMoney(0, 1, 1));
        Check.none("forge: no payment, and out of range", house, () -> house.forge(0, 200, 1000));
        Check.none("forge: no shop, and out of range", house, () -> house.forge(-1, 0, -1));
        Check.bad("passes: out of range, and above 3000", house, () -> house.passes(201));
        Check.none("faults: no shop, and out of range", house, () -> house.faults(4, 2, 3, 101));
        Check.none("tells: no card, and out of range", house, () -> house.tells(8, 4));
        Check.none("cardAt: no card, and out of range", house, () -> house.cardAt(8, 9));
        Check.none("paymentAt: no payment, and out of range", house, () -> house.paymentAt(200, 10));
        Check.none("knows: out of range, both", house, () -> house.knows(1000, 8));
        Check.none("accountAt: no account, and out of range", house, () -> house.accountAt(8, 4));
        Check.none("shopAt: no shop, and out of range", house, () -> house.shopAt(4, 6));
    }

    /** As many as there can be of everything, at the last tick. */
    private static Chipcardhouse fullHouse() {
        Chipcardhouse house = new Chipcardhouse();
        for (int i = 0; i < 8; i++) {
            house.account(9000000);
            house.card(i, 7, 9, 100000);
        }
        for (int i = 0; i < 4; i++) {
            house.shop(500, 0);
        }
        for (int i = 0; i < 200; i++) {
            house.pay(i % 8, i % 4, 1 + i, 7);
        }
        for (int i = 0; i < 100; i++) {
            house.backMoney(0, 0, 1);
        }
        for (int i = 0; i < 15; i++) {
            house.passes(200);
        }
        for (int i = 0; i < 75; i++) {
            house.type(0x2020202020202020L);
        }
        return house;
    }

    private static void refusedCallChangesNothing() {
        Bound.term(1, 8, "a call that throws an exception changes nothing");
        Chipcardhouse house = askingHouse();
        house.setHouse(300, 40, 2);
        Check.bad("the stand-in amount alone is right", house, () -> house.setHouse(900, 501, 5));
        Check.bad("the delay alone is wrong", house, () -> house.setHouse(900, 30, 6));
        Check.bad("the stand-in amount alone is wrong", house, () -> house.setHouse(-1, 30, 5));
        house.setOpen(false);
        house.pay(0, 0, 300, 7);
        house.pay(0, 0, 301, 7);
        house.passes(2);
        Check.due("the delay is 2 still", house.shopAt(0, 5), 2);
        house.passes(2);
        Check.due("the stand-in amount is 300", house.paymentAt(0, 0), 2);
        Check.due("and not above", house.paymentAt(1, 7), 8);
        Check.due("the fee is 40", house.setHouse(0, 0, 1), 40);
        Check.bad("a payment with a wrong PIN of 10000", house, () -> house.pay(0, 0, 5, 10000));
        Check.due("no try is gone", house.cardAt(0, 1), 3);
        Check.type(house, "account 5;x");
        Check.bad("a sign more that is none", house, () -> house.type(0x3b1fL));
        Check.due("no sign was put", house.type(0), 11);
    }

    private static void doesNotExist() {
        Bound.term(1, 9, "An IndexOutOfBoundsException is thrown for an account, a shop, a card or a payment that does "
                + "not exist.");
        Bound.exist(2, BoundsOfHouse::askingHouse, (house, n) -> house.card(n, 7, 0, 0));
        Bound.exist(2, BoundsOfHouse::askingHouse, (house, n) -> house.freeze(n, true));
        Bound.exist(2, BoundsOfHouse::askingHouse, (house, n) -> house.pay(n, 0, 5, 7));
        Bound.exist(2, BoundsOfHouse::askingHouse, (house, n) -> house.pay(0, n, 5, 7));
        Bound.noneExists(Chipcardhouse::new, (house, n) -> house.card(n, 7, 0, 0));
        Bound.noneExists(Chipcardhouse::new, (house, n) -> house.freeze(n, true));
        Bound.noneExists(Chipcardhouse::new, (house, n) -> house.stolen(n));
        Bound.noneExists(Chipcardhouse::new, (house, n) -> house.tells(n, 1));
        Bound.noneExists(Chipcardhouse::new, (house, n) -> house.sends(n));
        Bound.noneExists(Chipcardhouse::new, (house, n) -> house.faults(n, 0, 0, 0));
        Bound.noneExists(Chipcardhouse::new, (house, n) -> house.pay(n, n, 5, 7));
        Bound.noneExists(BoundsOfHouse::askingHouse, (house, n) -> house.dispute(n));
        Bound.noneExists(BoundsOfHouse::askingHouse, (house, n) -> house.backMoney(0, n, 1));
        Bound.noneExists(BoundsOfHouse::askingHouse, (house, n) -> house.forge(0, n, 1));
        Bound.noneExists(BoundsOfHouse::askingHouse, (house, n) -> house.paymentAt(n, 0));
    }

    // ---- section 2

    private static void theCards() {
        keys();
        stampsWrapAround();
        sortsOfStamps();
        newCard();
        touchesSincePin();
        countAndSumAgain();
        canBeDead();
        pinOfCard();
        greatestCount();
        greatestSum();
    }

    private static void keys() {
        Bound.term(2, 7, "The key of card c is the rest of (271 * c * c + 7919 * c + 4242) divided by 9973.");
        Chipcardhouse house = new Chipcardhouse();
        house.account(0);
        // 4242 is below 9973; 12432 is above it once, 72954 seven times.
        int[] keys = {4242, 2459, 1218, 519, 362, 747, 1674, 3143};
        for (int c = 0; c < 8; c++) {
            house.card(0, 0, 0, 0);
            Check.due("the key of card " + c, house.cardAt(c, 7), keys[c]);
            Check.due("it is the rest", house.cardAt(c, 7), (271 * c * c + 7919 * c + 4242) % 9973);
        }
    }

    private static void stampsWrapAround() {
        Bound.term(2, 22, "for each of the four numbers, in their order, x becomes the rest of (x * 37 + number + 11) "
                + "divided by 999983, as longs");
        Chipcardhouse house = new Chipcardhouse();
        house.account(0);
        house.shop(50000, 0);
        house.shop(0, 0);
        for (int c = 0; c < 5; c++) {
            house.card(0, 7, 9, 100000);
        }
        int[][] all = {{4, 0, 10167, 0}, {4, 0, 10131, 1369}, {4, 0, 59033, 0}, {1, 1, 48017, 999982},
            {1, 1, 47981, 1368}, {1, 1, 47943, 999982}};
        for (int i = 0; i < all.length; i++) {
            house.pay(all[i][0], all[i][1], all[i][2], 7);
            Check.due("the stamp of payment " + i, house.paymentAt(i, 5), all[i][3]);
        }
    }

    private static void sortsOfStamps() {
        Bound.term(2, 22, "The four numbers of a stamp of a payment are the counter, the amount, the shop, and its sort");
        Chipcardhouse house = Check.house();
        house.shop(500, 1);
        house.pay(0, 0, 1, 7);
        house.pay(0, 1, 1, 7);
        house.pay(0, 1, 100000, 7);
        Check.due("sort 1 of the shop 0, counter 1", house.paymentAt(0, 5), Check.stamp(0, 1, 1, 0, 1));
        Check.due("sort 2 of the shop 1, counter 2", house.paymentAt(1, 5), Check.stamp(0, 2, 1, 1, 2));
        Check.due("the greatest amount", house.paymentAt(2, 5), Check.stamp(0, 3, 100000, 1, 2));
        house.passes(2);
        Check.due("the answer's stamp of sort 3 was right", house.paymentAt(1, 0), 2);
    }

    private static void newCard() {
        Bound.term(2, 7, "A card has a counter (0 at first), PIN tries left (3 at first)");
        Chipcardhouse house = Check.house();
        int[] due = {0, 3, 0, 0, 0, 0, 9, 4242, 0};
        for (int what = 0; what <= 8; what++) {
            Check.due("at first: " + what, house.cardAt(0, what), due[what]);
        }
    }

    private static void touchesSincePin() {
        Bound.term(2, 9, "a number of touches (payments without PIN since the latest right PIN; 0 at first)");
        Chipcardhouse house = Check.house();
        Check.due("none at first", house.cardAt(0, 2), 0);
        for (int i = 1; i <= 5; i++) {
            house.pay(0, 0, 1, TOUCH);
            Check.due("touches", house.cardAt(0, 2), i);
        }
        house.pay(0, 0, 1, TOUCH);
        Check.due("a sixth is no payment", house.cardAt(0, 2), 5);
        house.pay(0, 0, 1, 8);
        Check.due("a wrong PIN leaves them", house.cardAt(0, 2), 5);
        house.pay(0, 0, 1, 7);
        Check.due("a right PIN", house.cardAt(0, 2), 0);
        house.pay(0, 0, 1, TOUCH);
        Check.due("one since it", house.cardAt(0, 2), 1);
    }

    private static void countAndSumAgain() {
        Bound.term(2, 9, "a count and a sum of payments that it granted (0 and 0 at first, and 0 again when a payment of "
                + "it is GRANTED by the issuer, section 3)");
        Chipcardhouse house = Check.house();
        house.card(0, 7, 9, 5000);
        house.pay(0, 0, 30, 7);
        house.pay(1, 0, 40, 7);
        house.pay(0, 0, 20000, 7);
        house.passes(2);
        Check.due("behind DENIED the count stays", house.cardAt(0, 3), 1);
        Check.due("the sum too", house.cardAt(0, 4), 30);
        house.setOpen(false);
        house.pay(0, 0, 600, 7);
        house.passes(2);
        Check.due("behind GRANTED by the switch the count stays", house.cardAt(0, 3), 1);
        Check.due("the sum too", house.cardAt(0, 4), 30);
        house.setOpen(true);
        Check.due("the note leaves them", house.cardAt(0, 4), 30);
        house.pay(0, 0, 600, 7);
        house.passes(2);
        Check.due("0 again", house.cardAt(0, 3), 0);
        Check.due("0 again", house.cardAt(0, 4), 0);
        Check.due("another card keeps its count", house.cardAt(1, 3), 1);
        Check.due("and its sum", house.cardAt(1, 4), 40);
    }

    private static void canBeDead() {
        Bound.term(2, 16, "and can be dead");
        Chipcardhouse house = Check.house();
        house.card(0, 7, 9, 5000);
        house.tells(0, 2);
        Check.due("not by being told so at the issuer", house.cardAt(0, 5), 0);
        house.pay(1, 0, 501, 7);
        house.passes(2);
        Check.due("not by the answer to another card", house.cardAt(0, 5), 0);
        house.pay(0, 0, 501, 7);
        house.passes(2);
        Check.due("by the answer to it", house.cardAt(0, 5), 1);
        Check.due("the other is not", house.cardAt(1, 5), 0);
    }

    private static void pinOfCard() {
        Bound.term(2, 7, "its PIN (0 to 9999)");
        Chipcardhouse house = new Chipcardhouse();
        house.account(1000);
        house.shop(500, 0);
        house.card(0, 0, 9, 5000);
        house.card(0, 9999, 9, 5000);
        Check.due("0 is not 1", house.pay(0, 0, 1, 1), -3);
        Check.due("0 is not 9999", house.pay(0, 0, 1, 9999), -3);
        Check.due("0 is right", house.pay(0, 0, 1, 0), 0);
        Check.due("9999 is not 9998", house.pay(1, 0, 1, 9998), -3);
        Check.due("9999 is right", house.pay(1, 0, 1, 9999), 1);
    }

    /** A house whose card grants so many and so much, and a shop at which nothing else asks. */
    private static Chipcardhouse granting(int count, int sum) {
        Chipcardhouse house = new Chipcardhouse();
        house.account(9000000);
        house.shop(50000, 0);
        house.card(0, 7, count, sum);
        return house;
    }

    private static void greatestCount() {
        Bound.term(2, 7, "the greatest count (0 to 9)");
        for (int count : new int[] {0, 1, 8, 9}) {
            Chipcardhouse house = granting(count, 100000);
            for (int i = 0; i <= count; i++) {
                house.pay(0, 0, 1, 7);
                Check.due("payment " + i + " with the greatest count " + count, house.paymentAt(i, 0), i < count ? 0 : 1);
            }
            Check.due("the count", house.cardAt(0, 3), count);
        }
    }

    private static void greatestSum() {
        Bound.term(2, 7, "the greatest sum (0 to 100000) that it grants");
        int[][] all = {{0, 1, 1}, {1, 1, 0}, {1, 2, 1}, {50000, 50000, 0}, {49999, 50000, 1}};
        for (int[] one : all) {
            Chipcardhouse house = granting(9, one[0]);
            house.pay(0, 0, one[1], 7);
            Check.due(one[1] + " with the greatest sum " + one[0], house.paymentAt(0, 0), one[2]);
            Check.due("the sum", house.cardAt(0, 4), one[2] == 0 ? one[1] : 0);
        }
        Chipcardhouse greatest = granting(9, 100000);
        greatest.pay(0, 0, 50000, 7);
        greatest.pay(0, 0, 49999, 7);
        greatest.pay(0, 0, 2, 7);
        greatest.pay(0, 0, 1, 7);
        greatest.pay(0, 0, 1, 7);
        int[] states = {0, 0, 1, 0, 1};
        for (int i = 0; i < 5; i++) {
            Check.due("of 50000, 49999, 2, 1 and 1: " + i, greatest.paymentAt(i, 0), states[i]);
        }
        Check.due("the sum is full", greatest.cardAt(0, 4), 100000);
    }

    // ---- promise 1

    private static void newObject() {
        Bound.promise(1, "Creates a house without accounts, shops and cards, an open issuer, a stand-in amount of 1000, a "
                + "fee of 100 and the delay 1.");
        Chipcardhouse house = new Chipcardhouse();
        int[] due = {0, 0, 0, 0, 0, 0, 0, 0, 0, 1};
        for (int what = 0; what <= 9; what++) {
            Check.due("count " + what, house.count(what), due[what]);
        }
        Check.none("account 0", house, () -> house.accountAt(0, 0));
        Check.none("shop 0", house, () -> house.shopAt(0, 0));
        Check.none("card 0", house, () -> house.cardAt(0, 0));
        Check.none("payment 0", house, () -> house.paymentAt(0, 0));
        Check.due("the text is empty", house.type(0), 0);
        Check.due("the fee", house.setHouse(0, 0, 1), 100);
        standInAtFirst();
        delayAtFirst();
    }

    private static void standInAtFirst() {
        Chipcardhouse house = Check.house();
        house.setOpen(false);
        house.pay(0, 0, 1000, 7);
        house.pay(0, 0, 1001, 7);
        house.passes(2);
        Check.due("1000 is granted", house.paymentAt(0, 8), 2);
        Check.due("1001 is not", house.paymentAt(1, 7), 8);
    }

    private static void delayAtFirst() {
        Chipcardhouse house = Check.house();
        house.pay(0, 0, 501, 7);
        Check.due("on the line", house.shopAt(0, 4), 1);
        house.passes(1);
        Check.due("it came behind 1 tick", house.shopAt(0, 4), 0);
    }

    // ---- promises 5 to 7

    private static void promisesOfAccount() {
        Bound.promise(5, "`balance`: 0 to 9000000");
        Bound.rangeOfArgument(0, 9000000, Chipcardhouse::new, Chipcardhouse::account);
        Bound.promise(5, "Adds an account.");
        Chipcardhouse house = new Chipcardhouse();
        house.account(0);
        house.account(9000000);
        long[] due = {9000000, 0, 9000000, 0};
        for (int what = 0; what <= 3; what++) {
            Check.due("the least: " + what, house.accountAt(0, what), 0);
            Check.due("the greatest: " + what, house.accountAt(1, what), due[what]);
        }
        Check.due("all money is what was put in", house.errors(), 0);
        Bound.promise(5, "Returns its number.");
        Check.due("the third", house.account(5), 2);
        Check.bad("one out of range", house, () -> house.account(-1));
        Check.due("it has no number", house.account(5), 3);
        Bound.promise(5, "Throws `IllegalArgumentException` if balance is out of range");
        Check.bad("above", house, () -> house.account(9000001));
        Bound.promise(5, "Throws `IllegalStateException` if there are 8");
        for (int i = 4; i < 7; i++) {
            house.account(5);
        }
        Check.due("the eighth", house.account(5), 7);
        Check.late("a ninth", house, () -> house.account(5));
        Check.late("a ninth again", house, () -> house.account(0));
        Check.bad("a ninth that is out of range", house, () -> house.account(-1));
    }

    private static void promisesOfShop() {
        Bound.promise(6, "`floor`: 0 to 50000");
        Bound.rangeOfArgument(0, 50000, Chipcardhouse::new, (house, n) -> house.shop(n, 0));
        Bound.promise(6, "`pick`: 0 to 9");
        Bound.rangeOfArgument(0, 9, Chipcardhouse::new, (house, n) -> house.shop(0, n));
        Bound.promise(6, "Adds a shop with its terminal, without money.");
        Chipcardhouse house = new Chipcardhouse();
        house.account(10);
        house.shop(50000, 9);
        for (int what = 0; what <= 5; what++) {
            Check.due("a new shop: " + what, house.shopAt(0, what), 0);
        }
        Bound.promise(6, "Returns its number.");
        Check.due("the second", house.shop(0, 0), 1);
        Check.bad("one out of range", house, () -> house.shop(-1, 0));
        Check.due("it has no number", house.shop(0, 0), 2);
        Bound.promise(6, "Throws `IllegalArgumentException` if one is out of range");
        Check.bad("the floor alone", house, () -> house.shop(50001, 9));
        Check.bad("the pick alone", house, () -> house.shop(50000, 10));
        Check.bad("both", house, () -> house.shop(-1, -1));
        Bound.promise(6, "Throws `IllegalStateException` if there are 4");
        Check.due("the fourth", house.shop(0, 0), 3);
        Check.late("a fifth", house, () -> house.shop(0, 0));
        Check.bad("a fifth that is out of range", house, () -> house.shop(0, 10));
    }

    private static void promisesOfCard() {
        Bound.promise(7, "`account`: its account");
        Bound.exist(2, BoundsOfHouse::askingHouse, (house, n) -> house.card(n, 7, 0, 0));
        Bound.promise(7, "`pin`: 0 to 9999");
        Bound.rangeOfArgument(0, 9999, BoundsOfHouse::askingHouse, (house, n) -> house.card(0, n, 0, 0));
        Bound.promise(7, "`count`: its greatest count, 0 to 9");
        Bound.rangeOfArgument(0, 9, BoundsOfHouse::askingHouse, (house, n) -> house.card(0, 7, n, 0));
        Bound.promise(7, "`sum`: its greatest sum, 0 to 100000");
        Bound.rangeOfArgument(0, 100000, BoundsOfHouse::askingHouse, (house, n) -> house.card(0, 7, 0, n));
        Bound.promise(7, "Adds a card.");
        Chipcardhouse house = askingHouse();
        house.card(1, 0, 0, 0);
        Check.due("three", house.count(4), 3);
        Check.due("its greatest count", house.cardAt(2, 6), 0);
        Bound.promise(7, "Returns its number.");
        Check.due("the fourth", house.card(0, 9999, 9, 100000), 3);
        Check.bad("one out of range", house, () -> house.card(0, -1, 0, 0));
        Check.due("it has no number", house.card(0, 0, 0, 0), 4);
        Bound.promise(7, "Throws `IndexOutOfBoundsException` if there is no such account");
        Bound.noneExists(Chipcardhouse::new, (empty, n) -> empty.card(n, 7, 0, 0));
        Check.none("no account, and a wrong PIN", house, () -> house.card(2, -1, 0, 0));
        Bound.promise(7, "Throws `IllegalArgumentException` if one is out of range");
        Check.bad("the PIN alone", house, () -> house.card(0, 10000, 9, 100000));
        Check.bad("the count alone", house, () -> house.card(0, 9999, 10, 100000));
        Check.bad("the sum alone", house, () -> house.card(0, 9999, 9, 100001));
        Bound.promise(7, "Throws `IllegalStateException` if there are 8");
        house.card(0, 0, 0, 0);
        house.card(0, 0, 0, 0);
        Check.due("the eighth", house.card(0, 0, 0, 0), 7);
        Check.late("a ninth", house, () -> house.card(0, 0, 0, 0));
        Check.none("a ninth of no account", house, () -> house.card(2, 0, 0, 0));
        Check.bad("a ninth that is out of range", house, () -> house.card(0, 0, 0, -1));
    }

    // ---- promise 8

    private static void promisesOfSetHouse() {
        Bound.promise(8, "`standIn`: 0 to 20000");
        Bound.rangeOfArgument(0, 20000, Check::house, (house, n) -> house.setHouse(n, 0, 1));
        Bound.promise(8, "`fee`: 0 to 500");
        Bound.rangeOfArgument(0, 500, Check::house, (house, n) -> house.setHouse(0, n, 1));
        Bound.promise(8, "`delay`: 1 to 5");
        Bound.rangeOfArgument(1, 5, Check::house, (house, n) -> house.setHouse(0, 0, n));
        Bound.promise(8, "Returns the fee before.");
        Chipcardhouse house = Check.house();
        Check.due("at first", house.setHouse(0, 500, 1), 100);
        Check.due("the greatest", house.setHouse(0, 0, 1), 500);
        Check.due("the least", house.setHouse(0, 0, 1), 0);
        Bound.promise(8, "Throws `IllegalArgumentException` if one is out of range");
        Check.bad("the stand-in amount alone", house, () -> house.setHouse(20001, 500, 5));
        Check.bad("the fee alone", house, () -> house.setHouse(20000, 501, 5));
        Check.bad("the delay alone", house, () -> house.setHouse(20000, 500, 6));
        Check.bad("no delay", house, () -> house.setHouse(0, 7, 0));
        Check.due("the fee stays", house.setHouse(0, 0, 1), 0);
        delayFromThenOn();
    }

    private static void delayFromThenOn() {
        Bound.promise(8, "Sets the stand-in amount, the fee and the delay of the house (for messages that are put on a "
                + "line from then on).");
        Chipcardhouse house = Check.house();
        house.setHouse(1000, 100, 3);
        house.pay(0, 0, 501, 7);
        house.setHouse(1000, 100, 1);
        house.pay(0, 0, 502, 7);
        house.passes(1);
        Check.due("what was put then came", house.knows(1, 0), 1);
        house.passes(1);
        Check.due("what was put before is not quicker", house.knows(0, 0), 0);
        house.setHouse(1000, 100, 5);
        house.passes(1);
        Check.due("nor slower", house.knows(0, 0), 1);
        house.passes(4);
        Check.due("its answer has the delay of its own time", house.paymentAt(0, 0), 1);
        house.passes(1);
        Check.due("5 ticks", house.paymentAt(0, 0), 2);
    }
}
