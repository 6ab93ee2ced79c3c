/** Boundary cases of section 3 and of the promises 9 to 12: payments at a terminal, batches, money back, copies. */
final class BoundsOfPayments {
    private static final int TOUCH = Chipcardhouse.NONE;

    private BoundsOfPayments() {
    }

    static void run() {
        whatAsks();
        howMany();
        reasonsOfRefusal();
        granting();
        answers();
        givingUp();
        told();
        promisesOfPay();
        promisesOfSends();
        promisesOfBackMoney();
        promisesOfForge();
    }

    private static Chipcardhouse houseWith(int floor, int pick) {
        Chipcardhouse house = new Chipcardhouse();
        house.account(9000000);
        house.shop(floor, pick);
        house.card(0, 7, 9, 100000);
        return house;
    }

    private static void pays(Chipcardhouse house, int payment, int amount, int state) {
        Check.due("the payment of " + amount, house.pay(0, 0, amount, 7), payment);
        Check.due("the state of the payment of " + amount, house.paymentAt(payment, 0), state);
    }

    // ---- floor and pick

    private static void whatAsks() {
        floor();
        pick();
        pickOfAnyState();
        refusedApart();
        neitherFloorNorPick();
    }

    private static void floor() {
        Bound.term(3, 9, "A terminal has a floor (0 to 50000): payments of more than the floor ask");
        pays(houseWith(0, 0), 0, 1, 1);
        for (int floor : new int[] {1, 2499, 49999, 50000}) {
            pays(houseWith(floor, 0), 0, floor, 0);
            pays(houseWith(floor, 0), 0, floor + 1, 1);
        }
        pays(houseWith(50000, 0), 0, 100000, 1);
    }

    private static void pick() {
        Bound.term(3, 9, "and a pick (0 to 9): with a pick above 0, each payment asks for which the number of payments of "
                + "this shop that came so far ahead of it, those that were refused apart, and 1 can be divided by the pick");
        for (int pick = 0; pick <= 9; pick++) {
            Chipcardhouse house = houseWith(500, pick);
            house.shop(500, 0);
            for (int card = 1; card < 8; card++) {
                house.card(0, 7, 9, 100000);
            }
            for (int i = 1; i <= 20; i++) {
                house.pay(i % 8, 1, 1, 7);
                int payment = house.pay(i % 8, 0, 1, 7);
                boolean asks = pick > 0 && i % pick == 0;
                Check.due("with the pick " + pick + " the payment " + i + " of the shop", house.paymentAt(payment, 0),
                        asks ? 1 : 0);
            }
        }
    }

    private static void pickOfAnyState() {
        Bound.term(3, 9, "the number of payments of this shop that came so far ahead of it");
        Chipcardhouse house = houseWith(500, 3);
        house.faults(0, 0, 0, 1);
        pays(house, 0, 501, 1);
        house.passes(8);
        Check.due("one is given up", house.paymentAt(0, 0), 4);
        house.freeze(0, true);
        pays(house, 1, 501, 1);
        house.passes(2);
        Check.due("one is denied", house.paymentAt(1, 0), 3);
        pays(house, 2, 1, 1);
        pays(house, 3, 1, 0);
    }

    private static void refusedApart() {
        Bound.term(3, 9, "those that were refused apart");
        Chipcardhouse house = houseWith(5000, 2);
        Check.due("a wrong PIN", house.pay(0, 0, 1, 8), -3);
        Check.due("too much by touching", house.pay(0, 0, 2501, TOUCH), -4);
        pays(house, 0, 1, 0);
        Check.due("a wrong PIN", house.pay(0, 0, 1, 8), -3);
        Check.due("three have come, one of them is a payment", house.shopAt(0, 2), 1);
        pays(house, 1, 1, 1);
        pays(house, 2, 1, 0);
    }

    private static void neitherFloorNorPick() {
        Bound.term(3, 9, "If neither floor nor pick let it ask");
        pays(houseWith(500, 0), 0, 500, 0);
        pays(houseWith(500, 0), 0, 501, 1);
        pays(houseWith(500, 1), 0, 500, 1);
        pays(houseWith(500, 1), 0, 501, 1);
        Chipcardhouse house = houseWith(500, 1);
        house.pay(0, 0, 500, 7);
        Check.due("what asks is not in the card's count", house.cardAt(0, 3), 0);
        Check.due("nor in its sum", house.cardAt(0, 4), 0);
    }

    // ---- how many, and the reasons of a refusal

    private static Chipcardhouse houseOf200() {
        Chipcardhouse house = houseWith(500, 0);
        house.shop(500, 0);
        house.card(0, 7, 9, 100000);
        for (int i = 0; i < 200; i++) {
            Check.due("numbered over all shops", house.pay(0, i % 2, 1, 7), i);
        }
        return house;
    }

    private static void howMany() {
        Bound.term(3, 9, "PAYMENTS are numbered from 0 over all shops, 200 at most");
        Chipcardhouse house = houseOf200();
        Check.due("two hundred", house.count(5), 200);
        Check.due("a hundred of each shop", house.shopAt(1, 2), 100);
        Check.due("the last one's counter", house.paymentAt(199, 4), 200);
        String before = Check.stateOf(house);
        Check.due("one more", house.pay(0, 0, 1, 7), -5);
        Check.due("one more of the other card and shop", house.pay(1, 1, 1, TOUCH), -5);
        Check.due("nothing is changed", before.equals(Check.stateOf(house)), true);
        Bound.term(3, 9, "a payment that is REFUSED is none (it gets no number)");
        Chipcardhouse few = houseWith(500, 0);
        Check.due("a wrong PIN", few.pay(0, 0, 1, 8), -3);
        Check.due("no payment", few.count(5), 0);
        Check.due("none of the shop", few.shopAt(0, 2), 0);
        Check.none("it has no number", few, () -> few.paymentAt(0, 0));
        Check.due("the first has the number 0", few.pay(0, 0, 1, 7), 0);
    }

    private static void reasonsOfRefusal() {
        amountAndPin();
        deadCard();
        noTriesLeft();
        wrongPin();
        touching();
        twoHundredComesLast();
        rightPin();
        counter();
    }

    private static void amountAndPin() {
        Bound.term(3, 9, "To pay with a card, an amount (1 to 100000) and a PIN (or NONE, to touch)");
        Bound.rangeOfArgument(1, 100000, Check::house, (house, n) -> house.pay(0, 0, n, 7));
        Bound.rangeOfArgument(1, 100000, Check::house, (house, n) -> house.pay(0, 0, n, TOUCH));
        Bound.rangeOfArgument(-1, 9999, Check::house, (house, n) -> house.pay(0, 0, 1, n));
    }

    private static Chipcardhouse houseOfDead() {
        Chipcardhouse house = houseWith(500, 0);
        house.pay(0, 0, 1, 8);
        house.pay(0, 0, 1, 8);
        house.tells(0, 2);
        house.pay(0, 0, 501, TOUCH);
        house.passes(2);
        return house;
    }

    private static void deadCard() {
        Bound.term(3, 9, "1 the card is dead");
        Chipcardhouse house = houseOfDead();
        house.card(0, 7, 9, 5000);
        String before = Check.stateOf(house);
        Check.due("a right PIN", house.pay(0, 0, 1, 7), -1);
        Check.due("ahead of a wrong PIN", house.pay(0, 0, 1, 8), -1);
        Check.due("a touch", house.pay(0, 0, 1, TOUCH), -1);
        Check.due("ahead of too much by touching", house.pay(0, 0, 2501, TOUCH), -1);
        Check.due("nothing is changed, no try is gone", before.equals(Check.stateOf(house)), true);
        Check.due("another card is not dead", house.pay(1, 0, 1, 7), 1);
        for (int i = 2; i < 200; i++) {
            house.pay(1, 0, 1, 7);
        }
        Check.due("ahead of 200 payments", house.pay(0, 0, 1, 7), -1);
        Chipcardhouse none = houseWith(500, 0);
        none.pay(0, 0, 1, 8);
        none.pay(0, 0, 1, 8);
        none.pay(0, 0, 1, 8);
        none.tells(0, 2);
        none.pay(0, 0, 501, TOUCH);
        none.passes(2);
        Check.due("ahead of no tries", none.pay(0, 0, 1, 7), -1);
    }

    private static void noTriesLeft() {
        Bound.term(3, 9, "2 (with a PIN) it has no PIN tries left");
        Chipcardhouse house = houseWith(500, 0);
        house.pay(0, 0, 1, 8);
        house.pay(0, 0, 1, 8);
        Check.due("with one try left a wrong one is wrong", house.pay(0, 0, 1, 8), -3);
        String before = Check.stateOf(house);
        Check.due("a wrong one ahead of 3", house.pay(0, 0, 1, 8), -2);
        Check.due("the right one", house.pay(0, 0, 1, 7), -2);
        Check.due("no try", house.cardAt(0, 1), 0);
        Check.due("nothing is changed", before.equals(Check.stateOf(house)), true);
        Check.due("a touch is none with a PIN", house.pay(0, 0, 1, TOUCH), 0);
        Chipcardhouse one = houseWith(500, 0);
        one.pay(0, 0, 1, 8);
        one.pay(0, 0, 1, 8);
        Check.due("with one try left the right one", one.pay(0, 0, 1, 7), 0);
    }

    private static void wrongPin() {
        Bound.term(3, 9, "3 (with a PIN) the PIN is wrong: the card has one try less");
        Chipcardhouse house = houseWith(500, 0);
        for (int left = 2; left >= 0; left--) {
            Check.due("one beside it", house.pay(0, 0, 1, left == 1 ? 6 : 8), -3);
            Check.due("tries", house.cardAt(0, 1), left);
        }
        Check.due("no counter", house.cardAt(0, 0), 0);
        Check.due("no payment", house.count(5), 0);
        Chipcardhouse touched = houseWith(500, 0);
        for (int i = 0; i < 5; i++) {
            touched.pay(0, 0, 1, TOUCH);
        }
        Check.due("ahead of 4", touched.pay(0, 0, 2501, 8), -3);
        Check.due("the touches stay", touched.cardAt(0, 2), 5);
    }

    private static void touching() {
        Bound.term(3, 9, "4 (touching) the amount is above 2500, or the card has 5 touches");
        Chipcardhouse house = houseWith(5000, 0);
        Check.due("2501", house.pay(0, 0, 2501, TOUCH), -4);
        Check.due("100000", house.pay(0, 0, 100000, TOUCH), -4);
        Check.due("2500", house.pay(0, 0, 2500, TOUCH), 0);
        Check.due("2501 with the PIN", house.pay(0, 0, 2501, 7), 1);
        for (int i = 1; i <= 5; i++) {
            Check.due("touch " + i, house.pay(0, 0, 1, TOUCH), i + 1);
        }
        String before = Check.stateOf(house);
        Check.due("a sixth touch", house.pay(0, 0, 1, TOUCH), -4);
        Check.due("nothing is changed", before.equals(Check.stateOf(house)), true);
        Check.due("the PIN", house.pay(0, 0, 1, 7), 7);
        Check.due("a touch again", house.pay(0, 0, 1, TOUCH), 8);
    }

    private static void twoHundredComesLast() {
        Bound.term(3, 9, "5 there are 200 payments");
        Chipcardhouse house = houseOf200();
        Check.due("too much by touching comes first", house.pay(0, 0, 2501, TOUCH), -4);
        Check.due("a wrong PIN comes first", house.pay(0, 0, 1, 8), -3);
        Check.due("one try less", house.cardAt(0, 1), 2);
        Check.due("a right PIN", house.pay(0, 0, 1, 7), -5);
        Check.due("it does not make the tries 3", house.cardAt(0, 1), 2);
        Check.due("a touch", house.pay(0, 0, 1, TOUCH), -5);
        Check.due("it is no touch", house.cardAt(0, 2), 0);
        Check.due("nor is there a counter", house.cardAt(0, 0), 200);
        house.pay(0, 0, 1, 8);
        house.pay(0, 0, 1, 8);
        Check.due("no tries come first", house.pay(0, 0, 1, 7), -2);
        house.passes(30);
        Check.due("what is answered leaves them 200", house.pay(1, 0, 1, 7), -5);
    }

    private static void rightPin() {
        Bound.term(3, 9, "Then a right PIN makes the tries 3 and the touches 0; touching makes the touches 1 more.");
        Chipcardhouse house = houseWith(500, 0);
        house.pay(0, 0, 1, 8);
        house.pay(0, 0, 1, 8);
        for (int i = 1; i <= 5; i++) {
            house.pay(0, 0, 1, TOUCH);
            Check.due("touches", house.cardAt(0, 2), i);
            Check.due("touching leaves the tries", house.cardAt(0, 1), 1);
        }
        house.pay(0, 0, 501, 7);
        Check.due("the tries, though it asks", house.cardAt(0, 1), 3);
        Check.due("the touches", house.cardAt(0, 2), 0);
        house.pay(0, 0, 1, 7);
        Check.due("three stay three", house.cardAt(0, 1), 3);
        Check.due("none stays none", house.cardAt(0, 2), 0);
    }

    private static void counter() {
        Bound.term(3, 9, "The card's counter becomes 1 more: this is the counter of the payment.");
        Chipcardhouse house = houseWith(500, 0);
        house.shop(500, 0);
        house.card(0, 7, 9, 100000);
        house.pay(0, 0, 1, 7);
        house.pay(0, 0, 1, 8);
        house.pay(0, 1, 501, TOUCH);
        house.pay(1, 1, 1, 7);
        int[] counters = {1, 2, 1};
        for (int i = 0; i < 3; i++) {
            Check.due("the counter of payment " + i, house.paymentAt(i, 4), counters[i]);
        }
        Check.due("of card 0", house.cardAt(0, 0), 2);
        Check.due("of card 1", house.cardAt(1, 0), 1);
    }

    // ---- what the card grants

    private static Chipcardhouse houseOfCard(int count, int sum) {
        Chipcardhouse house = new Chipcardhouse();
        house.account(9000000);
        house.shop(50000, 0);
        house.card(0, 7, count, sum);
        return house;
    }

    private static void granting() {
        Bound.term(3, 9, "its count is less than its greatest count");
        pays(houseOfCard(0, 100000), 0, 1, 1);
        Chipcardhouse one = houseOfCard(1, 100000);
        pays(one, 0, 1, 0);
        pays(one, 1, 1, 1);
        pays(one, 2, 1, 1);
        Check.due("the count stays 1", one.cardAt(0, 3), 1);
        Bound.term(3, 9, "its sum and the amount together are not above its greatest sum");
        Chipcardhouse hundred = houseOfCard(9, 100);
        pays(hundred, 0, 101, 1);
        pays(hundred, 1, 60, 0);
        pays(hundred, 2, 41, 1);
        pays(hundred, 3, 40, 0);
        pays(hundred, 4, 1, 1);
        Check.due("the sum", hundred.cardAt(0, 4), 100);
        pays(houseOfCard(9, 0), 0, 1, 1);
        Bound.term(3, 9, "the count becomes 1 more, the sum greater by the amount, and the payment is PAID with the stamp "
                + "of the sort 1");
        Chipcardhouse paid = houseOfCard(9, 100000);
        pays(paid, 0, 50000, 0);
        Check.due("the count", paid.cardAt(0, 3), 1);
        Check.due("the sum", paid.cardAt(0, 4), 50000);
        Check.due("the stamp", paid.paymentAt(0, 5), Check.stamp(0, 1, 50000, 0, 1));
        Check.due("nothing is on the line", paid.shopAt(0, 4), 0);
        Bound.term(3, 9, "Otherwise it is ASKING, with the stamp of the sort 2: the terminal sends an ASK.");
        Chipcardhouse asks = houseOfCard(0, 0);
        pays(asks, 0, 1, 1);
        Check.due("the stamp", asks.paymentAt(0, 5), Check.stamp(0, 1, 1, 0, 2));
        Check.due("one is on the line", asks.shopAt(0, 4), 1);
        Check.due("the terminal does not keep it", asks.shopAt(0, 3), 0);
        Check.due("the count", asks.cardAt(0, 3), 0);
    }

    // ---- answers

    private static void answers() {
        firstAnswer();
        answerToWhatDoesNotAsk();
        grantedByIssuer();
        grantedBySwitch();
        denied();
        deniedBySwitch();
    }

    private static void firstAnswer() {
        Bound.term(3, 13, "An ASKING payment is answered by the first ANSWER to it");
        Chipcardhouse house = Check.house();
        house.faults(0, 0, 1, 1);
        house.faults(0, 1, 2, 1);
        house.pay(0, 0, 501, TOUCH);
        house.passes(2);
        Check.due("the second, for the first is late", house.paymentAt(0, 0), 2);
        house.pay(0, 0, 5, TOUCH);
        house.passes(4);
        Check.due("the other has come", house.shopAt(0, 5), 0);
        Check.due("it leaves the touches", house.cardAt(0, 2), 1);
        Check.due("and the count", house.cardAt(0, 3), 1);
        Check.due("and the state", house.paymentAt(0, 0), 2);
    }

    private static void answerToWhatDoesNotAsk() {
        Bound.term(3, 13, "that comes while it is ASKING");
        Chipcardhouse house = Check.house();
        house.setHouse(1000, 100, 5);
        house.tells(0, 3);
        house.pay(0, 0, 501, TOUCH);
        house.passes(10);
        Check.due("an answer to what is GIVEN UP", house.paymentAt(0, 0), 4);
        Check.due("leaves the touches", house.cardAt(0, 2), 1);
        Check.due("and tells nothing", house.cardAt(0, 6), 9);
        Chipcardhouse paid = houseWith(500, 1);
        paid.setHouse(1000, 100, 5);
        paid.freeze(0, true);
        paid.pay(0, 0, 5, TOUCH);
        paid.passes(10);
        Check.due("an answer to what is PAID behind giving up", paid.paymentAt(0, 0), 0);
        Check.due("has no reason", paid.paymentAt(0, 7), 0);
        Check.due("the issuer denied it", paid.knows(0, 0), 2);
    }

    private static void grantedByIssuer() {
        Bound.term(3, 13, "GRANTED by the issuer: if the stamp of the sort 3 in the answer is right, the payment is GRANTED,"
                + " the card's count, sum and touches become 0");
        Chipcardhouse house = Check.house();
        house.pay(0, 0, 100, TOUCH);
        house.pay(0, 0, 501, TOUCH);
        house.passes(1);
        Check.due("not before it comes: the count", house.cardAt(0, 3), 1);
        house.passes(1);
        Check.due("GRANTED", house.paymentAt(1, 0), 2);
        Check.due("by the issuer", house.paymentAt(1, 8), 1);
        for (int what = 2; what <= 4; what++) {
            Check.due("touches, count, sum: " + what, house.cardAt(0, what), 0);
        }
        Check.due("the counter is not", house.cardAt(0, 0), 2);
    }

    private static void grantedBySwitch() {
        Bound.term(3, 13, "GRANTED by the switch (without a stamp): the payment is GRANTED.");
        Chipcardhouse house = Check.house();
        house.tells(0, 3);
        house.pay(0, 0, 100, TOUCH);
        house.setOpen(false);
        house.pay(0, 0, 501, TOUCH);
        house.passes(2);
        Check.due("GRANTED", house.paymentAt(1, 0), 2);
        Check.due("by the switch", house.paymentAt(1, 8), 2);
        int[] due = {2, 1, 100};
        for (int what = 2; what <= 4; what++) {
            Check.due("touches, count, sum stay: " + what, house.cardAt(0, what), due[what - 2]);
        }
        Check.due("nothing is told", house.cardAt(0, 6), 9);
    }

    private static void denied() {
        Bound.term(3, 13, "DENIED with a reason: it is DENIED; if the issuer told it and its stamp is right, what the "
                + "issuer tells the card is done.");
        Chipcardhouse house = Check.house();
        house.tells(0, 3);
        house.pay(0, 0, 100, TOUCH);
        house.pay(0, 0, 20000, 7);
        house.pay(0, 0, 101, TOUCH);
        house.passes(2);
        Check.due("DENIED", house.paymentAt(1, 0), 3);
        Check.due("with a reason", house.paymentAt(1, 7), 6);
        Check.due("told", house.cardAt(0, 6), 0);
        int[] due = {1, 2, 201};
        for (int what = 2; what <= 4; what++) {
            Check.due("touches, count, sum stay: " + what, house.cardAt(0, what), due[what - 2]);
        }
    }

    private static void deniedBySwitch() {
        Bound.term(3, 13, "if the issuer told it");
        Chipcardhouse house = Check.house();
        house.setOpen(false);
        house.tells(0, 2);
        house.pay(0, 0, 1001, 7);
        house.passes(2);
        Check.due("DENIED by the switch", house.paymentAt(0, 7), 8);
        Check.due("nothing is told", house.cardAt(0, 5), 0);
        Check.due("it waits still", house.tells(0, 2), 1);
    }

    // ---- giving up

    private static void givingUp() {
        eightTicks();
        behindWhatComes();
        paidBehindIt();
        sumBehindIt();
        deadBehindIt();
        stampBehindIt();
        takeBackInBothCases();
        states();
    }

    private static void eightTicks() {
        Bound.term(3, 13, "If a payment is ASKING for 8 ticks, at the 8th one");
        Chipcardhouse house = Check.house();
        house.passes(5);
        house.faults(0, 0, 0, 2);
        house.pay(0, 0, 501, 7);
        house.passes(1);
        house.pay(0, 0, 502, 7);
        house.passes(6);
        Check.due("7 ticks", house.paymentAt(0, 0), 1);
        house.passes(1);
        Check.due("8 ticks", house.paymentAt(0, 0), 4);
        Check.due("the next one's 7 ticks", house.paymentAt(1, 0), 1);
        Check.due("one take back", house.shopAt(0, 3), 1);
        house.passes(1);
        Check.due("the next one's 8 ticks", house.paymentAt(1, 0), 4);
        Check.due("its tick stays", house.paymentAt(1, 6), 6);
    }

    private static void behindWhatComes() {
        Bound.term(3, 13, "behind what comes, the terminal gives up waiting");
        Chipcardhouse house = Check.house();
        house.setHouse(1000, 100, 4);
        house.pay(0, 0, 501, 7);
        house.passes(8);
        Check.due("an answer at the 8th tick", house.paymentAt(0, 0), 2);
        Check.due("no take back", house.shopAt(0, 3), 0);
        Chipcardhouse ninth = Check.house();
        ninth.setHouse(1000, 100, 4);
        ninth.pay(0, 0, 501, 7);
        ninth.passes(3);
        ninth.setHouse(1000, 100, 5);
        ninth.passes(6);
        Check.due("an answer at the 9th tick", ninth.paymentAt(0, 0), 4);
        Check.due("it has come", ninth.shopAt(0, 5), 0);
    }

    /** A house whose first payments are lost on the line up, so that they are given up at the tick 8. */
    private static Chipcardhouse houseOfLost(int floor, int count, int sum) {
        Chipcardhouse house = new Chipcardhouse();
        house.account(9000000);
        house.shop(floor, 1);
        house.card(0, 7, count, sum);
        house.faults(0, 0, 0, 100);
        return house;
    }

    private static void paidBehindIt() {
        Bound.term(3, 13, "if its amount is not above the floor, the card is not dead, and it grants it (as above, count "
                + "and sum), it is PAID");
        Chipcardhouse floor = houseOfLost(500, 9, 100000);
        floor.pay(0, 0, 500, 7);
        floor.pay(0, 0, 501, 7);
        floor.passes(8);
        Check.due("an amount that is the floor", floor.paymentAt(0, 0), 0);
        Check.due("an amount above it", floor.paymentAt(1, 0), 4);
        Chipcardhouse count = houseOfLost(500, 1, 100000);
        count.pay(0, 0, 1, 7);
        count.pay(0, 0, 1, 7);
        count.passes(8);
        Check.due("the count is less", count.paymentAt(0, 0), 0);
        Check.due("the count is full", count.paymentAt(1, 0), 4);
        Check.due("the count", count.cardAt(0, 3), 1);
        Check.due("a count of 0 grants nothing", stateBehindIt(houseOfLost(500, 0, 100000), 1), 4);
        Check.due("a floor of 0 neither", stateBehindIt(houseOfLost(0, 9, 100000), 1), 4);
    }

    private static int stateBehindIt(Chipcardhouse house, int amount) {
        house.pay(0, 0, amount, 7);
        house.passes(8);
        return house.paymentAt(0, 0);
    }

    private static void sumBehindIt() {
        Bound.term(3, 13, "and it grants it (as above, count and sum)");
        Check.due("the sum", stateBehindIt(houseOfLost(500, 9, 100), 100), 0);
        Check.due("above the sum", stateBehindIt(houseOfLost(500, 9, 100), 101), 4);
        Check.due("a sum of 0", stateBehindIt(houseOfLost(500, 9, 0), 1), 4);
        Chipcardhouse both = houseOfLost(500, 9, 100);
        both.pay(0, 0, 60, 7);
        both.pay(0, 0, 41, 7);
        both.pay(0, 0, 40, 7);
        both.passes(8);
        Check.due("60", both.paymentAt(0, 0), 0);
        Check.due("41 more are above it", both.paymentAt(1, 0), 4);
        Check.due("40 more are not", both.paymentAt(2, 0), 0);
        Check.due("the sum is full", both.cardAt(0, 4), 100);
    }

    private static void deadBehindIt() {
        Bound.term(3, 13, "the card is not dead");
        Chipcardhouse house = houseWith(500, 1);
        house.setHouse(1000, 100, 4);
        house.tells(0, 2);
        house.pay(0, 0, 5, 7);
        house.faults(0, 0, 0, 1);
        house.pay(0, 0, 6, 7);
        house.passes(7);
        Check.due("it is not at the tick 7", house.cardAt(0, 5), 0);
        house.passes(1);
        Check.due("it is by an answer at the tick 8", house.cardAt(0, 5), 1);
        Check.due("so that it grants nothing then", house.paymentAt(1, 0), 4);
    }

    private static void stampBehindIt() {
        Bound.term(3, 13, "it is PAID with a stamp of the sort 1 and the same counter; otherwise it is GIVEN UP");
        Chipcardhouse house = houseOfLost(500, 9, 100000);
        house.pay(0, 0, 500, 7);
        house.pay(0, 0, 501, 7);
        Check.due("the stamp before", house.paymentAt(0, 5), Check.stamp(0, 1, 500, 0, 2));
        house.passes(8);
        Check.due("the stamp of sort 1", house.paymentAt(0, 5), Check.stamp(0, 1, 500, 0, 1));
        Check.due("the same counter", house.paymentAt(0, 4), 1);
        Check.due("the card's counter stays", house.cardAt(0, 0), 2);
        Check.due("of what is GIVEN UP the stamp stays", house.paymentAt(1, 5), Check.stamp(0, 2, 501, 0, 2));
    }

    private static void takeBackInBothCases() {
        Bound.term(3, 13, "In both cases the terminal sends a TAKE BACK for it.");
        Chipcardhouse house = new Chipcardhouse();
        house.account(1000);
        house.shop(500, 1);
        house.card(0, 7, 9, 100000);
        house.faults(0, 1, 0, 3);
        house.pay(0, 0, 500, 7);
        house.pay(0, 0, 501, 7);
        house.passes(8);
        Check.due("two are on the line", house.shopAt(0, 4), 2);
        Check.due("two are kept", house.shopAt(0, 3), 2);
        Check.due("500 are held", house.accountAt(0, 1), 500);
        house.passes(1);
        Check.due("what is PAID is taken back", house.knows(0, 3), 1);
        Check.due("what is GIVEN UP is taken back", house.knows(1, 3), 1);
        Check.due("nothing is held", house.accountAt(0, 1), 0);
    }

    private static void states() {
        Bound.term(3, 22, "The states of a payment are 0 PAID, 1 ASKING, 2 GRANTED, 3 DENIED, 4 GIVEN UP.");
        Chipcardhouse house = Check.house();
        house.faults(0, 0, 0, 1);
        house.pay(0, 0, 501, 7);
        house.pay(0, 0, 502, 7);
        house.pay(0, 0, 20000, 7);
        house.pay(0, 0, 500, 7);
        house.passes(8);
        house.pay(0, 0, 503, 7);
        int[] states = {4, 2, 3, 0, 1};
        for (int i = 0; i < 5; i++) {
            Check.due("the state of payment " + i, house.paymentAt(i, 0), states[i]);
        }
    }

    // ---- what the issuer tells

    private static void told() {
        nextAnswer();
        takesAll();
        whatIsTold();
        deadByTheSameAnswer();
    }

    private static void nextAnswer() {
        Bound.term(3, 16, "What the issuer tells a card goes with the next answer of the issuer to an ASK of this card");
        Chipcardhouse house = Check.house();
        house.card(0, 7, 9, 5000);
        house.pay(0, 0, 501, 7);
        house.passes(1);
        house.tells(0, 3);
        house.pay(1, 0, 501, 7);
        house.passes(2);
        Check.due("an answer that was made before has it not", house.paymentAt(0, 0), 2);
        Check.due("nor has the other card's", house.paymentAt(1, 0), 2);
        Check.due("nothing is told yet", house.cardAt(0, 6), 9);
        house.pay(0, 0, 501, 7);
        house.passes(2);
        Check.due("the next one has it", house.cardAt(0, 6), 0);
        Check.due("the other card is as before", house.cardAt(1, 6), 9);
    }

    private static void takesAll() {
        Bound.term(3, 16, "each answer that it makes anew, GRANTED or DENIED, takes all that is told then");
        for (int amount : new int[] {501, 20000}) {
            Chipcardhouse house = Check.house();
            house.tells(0, 1);
            house.tells(0, 3);
            house.faults(0, 1, 0, 1);
            house.pay(0, 0, amount, 7);
            house.passes(1);
            Check.due("nothing waits, though the answer is lost", house.tells(0, 2), 1);
            house.pay(0, 0, 600, 7);
            house.passes(2);
            Check.due("what was taken by the lost one is not told", house.cardAt(0, 6), 9);
            Check.due("what was told behind it is", house.cardAt(0, 5), 1);
        }
        Chipcardhouse doubled = Check.house();
        doubled.tells(0, 3);
        doubled.faults(0, 0, 1, 1);
        doubled.faults(0, 1, 0, 1);
        doubled.pay(0, 0, 501, 7);
        doubled.passes(2);
        Check.due("the same answer again tells what it told then", doubled.cardAt(0, 6), 0);
    }

    private static void whatIsTold() {
        Bound.term(3, 16, "1 PIN tries are 3 again, 2 the card is dead, 3 its greatest count becomes 0");
        int[][] due = {{0, 0, 9}, {3, 0, 9}, {0, 1, 9}, {0, 0, 0}};
        for (int what = 0; what <= 3; what++) {
            Chipcardhouse house = Check.house();
            for (int i = 0; i < 3; i++) {
                house.pay(0, 0, 1, 8);
            }
            if (what > 0) {
                house.tells(0, what);
            }
            house.pay(0, 0, 501, TOUCH);
            house.passes(2);
            Check.due("the tries behind " + what, house.cardAt(0, 1), due[what][0]);
            Check.due("dead behind " + what, house.cardAt(0, 5), due[what][1]);
            Check.due("the greatest count behind " + what, house.cardAt(0, 6), due[what][2]);
        }
    }

    private static void deadByTheSameAnswer() {
        Bound.term(3, 16, "They are done in this order.");
        Chipcardhouse house = Check.house();
        for (int i = 0; i < 3; i++) {
            house.pay(0, 0, 1, 8);
        }
        house.tells(0, 3);
        house.tells(0, 2);
        house.tells(0, 1);
        house.pay(0, 0, 501, TOUCH);
        house.passes(2);
        Check.due("the tries", house.cardAt(0, 1), 3);
        Check.due("dead", house.cardAt(0, 5), 1);
        Check.due("the greatest count", house.cardAt(0, 6), 0);
        Check.due("the payment is GRANTED", house.paymentAt(0, 0), 2);
        Check.due("a dead card is refused", house.pay(0, 0, 1, 7), -1);
    }

    // ---- promise 9

    private static Chipcardhouse twoOfEach() {
        Chipcardhouse house = houseWith(500, 0);
        house.shop(500, 0);
        house.card(0, 7, 9, 100000);
        house.pay(0, 0, 100, TOUCH);
        house.pay(1, 1, 200, TOUCH);
        return house;
    }

    private static Chipcardhouse onePayment() {
        Chipcardhouse house = Check.house();
        house.pay(0, 0, 100, 7);
        return house;
    }

    private static void promisesOfPay() {
        Bound.promise(9, "`card`: a card");
        Bound.exist(2, BoundsOfPayments::twoOfEach, (house, n) -> house.pay(n, 0, 1, 7));
        Bound.promise(9, "`shop`: a shop");
        Bound.exist(2, BoundsOfPayments::twoOfEach, (house, n) -> house.pay(0, n, 1, 7));
        Bound.promise(9, "`amount`: 1 to 100000");
        Bound.rangeOfArgument(1, 100000, BoundsOfPayments::twoOfEach, (house, n) -> house.pay(0, 0, n, 7));
        Bound.promise(9, "`pin`: 0 to 9999, or NONE to touch");
        Bound.rangeOfArgument(0, 9999, BoundsOfPayments::twoOfEach, (house, n) -> house.pay(0, 0, 1, n == -1 ? -2 : n));
        Check.due("NONE is to touch", twoOfEach().pay(0, 0, 1, Chipcardhouse.NONE), 2);
        Bound.promise(9, "Pays with a card.");
        Chipcardhouse house = twoOfEach();
        Check.due("one more", house.pay(1, 0, 300, 7), 2);
        int[] due = {0, 1, 0, 300, 2};
        for (int what = 0; what < 5; what++) {
            Check.due("of the payment: " + what, house.paymentAt(2, what), due[what]);
        }
        Bound.promise(9, "if it is REFUSED, the reason with a minus (-1 to -5)");
        Check.due("-1", houseOfDead().pay(0, 0, 1, 7), -1);
        Check.due("-3", house.pay(0, 0, 1, 8), -3);
        house.pay(0, 0, 1, 8);
        house.pay(0, 0, 1, 8);
        Check.due("-2", house.pay(0, 0, 1, 7), -2);
        Check.due("-4", house.pay(0, 0, 2501, TOUCH), -4);
        Check.due("-5", houseOf200().pay(0, 0, 1, 7), -5);
        Bound.promise(9, "Throws `IndexOutOfBoundsException` if there is no such card or shop");
        Chipcardhouse empty = new Chipcardhouse();
        Check.none("neither", empty, () -> empty.pay(0, 0, 1, 7));
        Check.none("a card, no shop, a wrong amount", house, () -> house.pay(1, 2, 0, 7));
        Check.none("a shop, no card, a wrong PIN", house, () -> house.pay(2, 1, 1, -2));
        Bound.promise(9, "Throws `IllegalArgumentException` if amount or pin is out of range");
        Check.bad("the amount alone", house, () -> house.pay(1, 1, 100001, 9999));
        Check.bad("the PIN alone", house, () -> house.pay(1, 1, 100000, 10000));
        Chipcardhouse dead = houseOfDead();
        Check.bad("of a dead card", dead, () -> dead.pay(0, 0, 0, 7));
        Check.bad("a PIN below NONE", dead, () -> dead.pay(0, 0, 1, -2));
    }

    // ---- promise 10

    private static void promisesOfSends() {
        Bound.promise(10, "`shop`: a shop");
        Bound.exist(2, BoundsOfPayments::twoOfEach, Chipcardhouse::sends);
        Bound.promise(10, "Lets a shop send its batch.");
        Chipcardhouse house = twoOfEach();
        Check.due("shop 1", house.sends(1), 1);
        Check.due("of the other shop none was sent", house.paymentAt(0, 9), 0);
        Check.due("one was sent", house.paymentAt(1, 9), 1);
        Check.due("it is kept", house.shopAt(1, 3), 1);
        Bound.promise(10, "Returns how many RECORDS were sent by it.");
        Chipcardhouse none = Check.house();
        Check.due("without payments", none.sends(0), 0);
        none.pay(0, 0, 5, 7);
        Check.due("one", none.sends(0), 1);
        Check.due("that was sent", none.sends(0), 0);
        none.pay(0, 0, 5, 7);
        none.pay(0, 0, 501, 7);
        none.pay(0, 0, 5, 7);
        none.faults(0, 0, 0, 1);
        none.faults(0, 0, 1, 1);
        Check.due("two, one of them lost, one doubled", none.sends(0), 2);
        none.passes(2);
        Check.due("the one that was GRANTED since", none.sends(0), 1);
        Chipcardhouse full = houseOf200();
        full.passes(2);
        Check.due("all of shop 0", full.sends(0), 100);
        Check.due("all of shop 1", full.sends(1), 100);
        Check.due("none more", full.sends(1), 0);
        Bound.promise(10, "Throws `IndexOutOfBoundsException` if there is no such shop");
        Bound.noneExists(Chipcardhouse::new, Chipcardhouse::sends);
    }

    // ---- promise 11

    private static void promisesOfBackMoney() {
        Bound.promise(11, "`shop`: a shop");
        Bound.range(0, 0, IndexOutOfBoundsException.class, BoundsOfPayments::onePayment, (house, n) -> house.backMoney(n, 0, 1));
        Bound.promise(11, "`payment`: a payment of this shop");
        Chipcardhouse house = twoOfEach();
        Check.due("of shop 0", house.backMoney(0, 0, 1), 0);
        Check.due("of shop 1", house.backMoney(1, 1, 1), 0);
        Check.bad("of shop 1 at shop 0", house, () -> house.backMoney(0, 1, 1));
        Check.bad("of shop 0 at shop 1", house, () -> house.backMoney(1, 0, 1));
        Bound.promise(11, "`amount`: 1 to 100000");
        Bound.rangeOfArgument(1, 100000, BoundsOfPayments::onePayment, (one, n) -> one.backMoney(0, 0, n));
        Bound.promise(11, "Lets a shop send BACK MONEY.");
        Check.due("kept", house.shopAt(0, 3), 1);
        Check.due("on the line", house.shopAt(0, 4), 1);
        Bound.promise(11, "Returns the number of it, from 0 on for each shop.");
        Check.due("the second of shop 0", house.backMoney(0, 0, 100000), 1);
        Check.due("the third of shop 0", house.backMoney(0, 0, 1), 2);
        Check.due("the second of shop 1", house.backMoney(1, 1, 1), 1);
        Check.bad("one that is refused", house, () -> house.backMoney(1, 1, 0));
        Check.due("it has no number", house.backMoney(1, 1, 1), 2);
        Bound.promise(11, "Throws `IndexOutOfBoundsException` if there is no such shop or payment");
        Check.none("no shop", house, () -> house.backMoney(2, 0, 1));
        Check.none("no payment", house, () -> house.backMoney(0, 2, 0));
        Bound.noneExists(Check::house, (empty, n) -> empty.backMoney(0, n, 1));
        Bound.promise(11, "Throws `IllegalArgumentException` if it is not a payment of this shop, or amount is out of range");
        Check.bad("both", house, () -> house.backMoney(0, 1, 0));
        Check.bad("the amount alone", house, () -> house.backMoney(0, 0, 100001));
        Bound.promise(11, "Throws `IllegalStateException` if the shop sent 100");
        for (int i = 3; i < 100; i++) {
            Check.due("number " + i, house.backMoney(0, 0, 1), i);
        }
        Check.late("101", house, () -> house.backMoney(0, 0, 1));
        Check.bad("101 with a wrong amount", house, () -> house.backMoney(0, 0, 0));
        Check.none("101 for no payment", house, () -> house.backMoney(0, 2, 1));
        Check.due("the other shop goes on", house.backMoney(1, 1, 1), 3);
        house.passes(2);
        Check.late("101, though all were heard", house, () -> house.backMoney(0, 0, 1));
    }

    // ---- promise 12

    private static void promisesOfForge() {
        Bound.promise(12, "`shop`: a shop");
        Bound.exist(2, BoundsOfPayments::twoOfEach, (house, n) -> house.forge(n, 0, 0));
        Bound.promise(12, "`payment`: the payment that is copied");
        Bound.exist(2, BoundsOfPayments::twoOfEach, (house, n) -> house.forge(0, n, 0));
        Bound.promise(12, "`as`: the number that the RECORD tells, 0 to 999");
        Bound.rangeOfArgument(0, 999, BoundsOfPayments::twoOfEach, (house, n) -> house.forge(0, 0, n));
        for (int as : new int[] {0, 1, 2, 199, 200, 999}) {
            Chipcardhouse house = twoOfEach();
            house.forge(0, 0, as);
            house.passes(1);
            Check.due("it is POSTED as " + as, house.knows(as, 2), 1);
            Check.due("alone", house.count(6), 1);
        }
        Bound.promise(12, "Lets a thief put a copied RECORD on the line up of a shop.");
        Chipcardhouse house = twoOfEach();
        house.forge(1, 0, 5);
        Check.due("on that shop's line", house.shopAt(1, 4), 1);
        Check.due("not on the other's", house.shopAt(0, 4), 0);
        Bound.promise(12, "Returns the stamp of the RECORD.");
        Check.due("of payment 0", house.forge(1, 0, 5), Check.stamp(0, 1, 100, 0, 1));
        Check.due("of payment 1", house.forge(0, 1, 999), Check.stamp(1, 1, 200, 1, 1));
        Bound.promise(12, "Throws `IndexOutOfBoundsException` if there is no such shop or payment");
        Bound.noneExists(Check::house, (empty, n) -> empty.forge(0, n, 0));
        Check.none("no shop", house, () -> house.forge(2, 0, 1000));
        Check.none("no payment", house, () -> house.forge(0, 2, -1));
        Bound.promise(12, "Throws `IllegalArgumentException` if as is out of range");
        Check.bad("1000", house, () -> house.forge(0, 0, 1000));
        Check.bad("-1", house, () -> house.forge(0, 0, -1));
    }
}
