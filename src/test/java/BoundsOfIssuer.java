/** Boundary cases of sections 5 and 6 and of the promises 16 to 20: the issuer, days, disputes. */
final class BoundsOfIssuer {
    private static final int TOUCH = Chipcardhouse.NONE;

    private BoundsOfIssuer() {
    }

    static void run() {
        numbers();
        asks();
        notes();
        takeBacks();
        records();
        moneyBack();
        days();
        disputes();
        promisesOfTells();
        promisesOfStolenAndFreeze();
        promisesOfDispute();
        promisesOfEndDay();
    }

    /** A house with a balance, a shop at which all payments ask, and two cards. */
    private static Chipcardhouse houseOf(int balance) {
        Chipcardhouse house = new Chipcardhouse();
        house.account(balance);
        house.shop(500, 1);
        house.card(0, 7, 9, 5000);
        house.card(0, 7, 9, 5000);
        return house;
    }

    /** A house with a payment of so much that is PAID, and POSTED at the tick 1. */
    private static Chipcardhouse postedHouse(int amount) {
        Chipcardhouse house = new Chipcardhouse();
        house.account(10000);
        house.shop(50000, 0);
        house.card(0, 7, 9, 100000);
        house.pay(0, 0, amount, 7);
        house.sends(0);
        house.passes(1);
        return house;
    }

    private static void these(Chipcardhouse house, int number, int... due) {
        for (int what = 0; what < due.length; what++) {
            Check.due("what is known of " + number + ": " + what, house.knows(number, what), due[what]);
        }
    }

    // ---- numbers and ASKs

    private static void numbers() {
        Bound.term(5, 23, "The issuer knows a payment by its number (0 to 999), and keeps what it answered.");
        Chipcardhouse house = postedHouse(100);
        house.forge(0, 0, 999);
        house.passes(1);
        these(house, 0, 0, 0, 1, 0, 0, 0, 100, 0);
        these(house, 998, 0, 0, 0, 0, 0, 0, 0, -1);
        these(house, 999, 0, 0, 0, 0, 1, 0, 0, -1);
        Check.none("number 1000", house, () -> house.knows(1000, 0));
        Check.none("number -1", house, () -> house.knows(-1, 0));
        Bound.term(5, 23, "For each payment it has a HOLD or none, and the payment is POSTED or not, TAKEN BACK or not.");
        Chipcardhouse holds = houseOf(1000);
        these(holds, 0, 0, 0, 0, 0);
        holds.faults(0, 1, 0, 1);
        holds.pay(0, 0, 600, 7);
        holds.passes(1);
        these(holds, 0, 1, 600, 0, 0);
        holds.passes(8);
        these(holds, 0, 1, 0, 0, 1);
        holds.pay(0, 0, 1, 7);
        holds.passes(2);
        holds.sends(0);
        these(holds, 1, 1, 1, 0, 0);
        holds.passes(1);
        these(holds, 1, 1, 0, 1, 0);
    }

    private static void asks() {
        sameAnswerAgain();
        takenBackOrPosted();
        takeBackAtTheTickOfItsAsk();
        reasonsInTheirOrder();
        aboveWhatIsFree();
        amountIsHeld();
        countersAreHeard();
    }

    private static void sameAnswerAgain() {
        Bound.term(5, 16, "An ASK: if it has answered this payment before: the same answer again, with the stamp, and with "
                + "what it told the card then.");
        Chipcardhouse house = houseOf(1000);
        house.tells(0, 3);
        house.faults(0, 0, 1, 2);
        house.faults(0, 1, 0, 1);
        house.pay(0, 0, 600, 7);
        house.pay(0, 0, 600, 7);
        house.passes(1);
        Check.due("two answers of 600, one lost, two of what is too much", house.shopAt(0, 5), 3);
        Check.due("held once", house.accountAt(0, 1), 600);
        Check.due("two counters", house.cardAt(0, 8), 2);
        house.passes(1);
        Check.due("the second answer has the right stamp", house.paymentAt(0, 0), 2);
        Check.due("and tells what was told", house.cardAt(0, 6), 0);
        Check.due("the other is denied", house.paymentAt(1, 7), 6);
        Chipcardhouse seven = postedHouse(100);
        seven.pay(0, 0, 50, 7);
        seven.forge(0, 1, 2);
        seven.passes(1);
        seven.tells(0, 2);
        seven.faults(0, 0, 1, 1);
        seven.faults(0, 1, 0, 1);
        seven.pay(0, 0, 50001, 7);
        seven.passes(2);
        Check.due("7 is answered again", seven.paymentAt(2, 7), 7);
        Check.due("with what was told", seven.cardAt(0, 5), 1);
        Check.due("it is kept as an answer", seven.knows(2, 0), 2);
    }

    private static void takenBackOrPosted() {
        Bound.term(5, 16, "If it is TAKEN BACK or POSTED: DENIED with 7.");
        Chipcardhouse posted = postedHouse(100);
        posted.stolen(0);
        posted.pay(0, 0, 50, 7);
        posted.forge(0, 1, 2);
        posted.pay(0, 0, 50001, 7);
        posted.passes(1);
        Check.due("POSTED at the same tick, ahead of the ASK", posted.knows(2, 2), 1);
        posted.passes(1);
        Check.due("7 comes ahead of 4 and 6", posted.paymentAt(2, 7), 7);
        Check.due("the counter is not heard", posted.cardAt(0, 8), 0);
        Check.due("nothing is held", posted.knows(2, 1), 0);
    }

    /** An ASK comes at the tick 9 at the latest, the TAKE BACK for it at the tick 9 at the earliest, behind it. */
    private static void takeBackAtTheTickOfItsAsk() {
        Bound.term(5, 16, "(A TAKE BACK that comes ahead of its ASK counts as well.)");
        Chipcardhouse house = houseOf(1000);
        house.setHouse(1000, 100, 5);
        house.faults(0, 0, 2, 1);
        house.pay(0, 0, 600, 7);
        house.passes(7);
        house.setHouse(1000, 100, 1);
        house.passes(1);
        Check.due("given up at the tick 8", house.paymentAt(0, 0), 4);
        these(house, 0, 0, 0, 0, 0);
        Check.due("both are on the line", house.shopAt(0, 4), 2);
        house.passes(1);
        these(house, 0, 1, 0, 0, 1);
        Check.due("nothing is held", house.accountAt(0, 1), 0);
        Check.due("the ASK came first", house.cardAt(0, 8), 1);
        house.passes(1);
        Check.due("its answer does nothing", house.paymentAt(0, 0), 4);
        Check.due("no error", house.errors(), 0);
    }

    private static void reasonsInTheirOrder() {
        Bound.term(5, 16, "4 the card was told to be stolen; 5 its account is frozen");
        int[][] all = {{1, 1, 1, 4}, {1, 0, 1, 4}, {1, 1, 0, 4}, {1, 0, 0, 4}, {0, 1, 1, 5}, {0, 1, 0, 5}, {0, 0, 1, 6},
            {0, 0, 0, 0}};
        for (int[] one : all) {
            Chipcardhouse house = houseOf(1000);
            if (one[0] == 1) {
                house.stolen(0);
            }
            house.freeze(0, one[1] == 1);
            house.pay(0, 0, one[2] == 1 ? 1001 : 1000, 7);
            house.passes(2);
            Check.due("the reason", house.paymentAt(0, 7), one[3]);
            Check.due("the state", house.paymentAt(0, 0), one[3] == 0 ? 2 : 3);
        }
        Chipcardhouse other = houseOf(1000);
        other.stolen(1);
        other.pay(0, 0, 600, 7);
        other.pay(1, 0, 1, 7);
        other.passes(2);
        Check.due("of two cards of an account one is stolen", other.paymentAt(0, 0), 2);
        Check.due("that one", other.paymentAt(1, 7), 4);
    }

    private static void aboveWhatIsFree() {
        Bound.term(5, 16, "6 the amount is above what is free on its account");
        int[][] all = {{0, 1, 2}, {1, 1, 1}, {1, 2, 2}, {99999, 100000, 2}, {100000, 100000, 1}};
        for (int[] one : all) {
            Chipcardhouse house = houseOf(one[0]);
            house.pay(0, 0, one[1], 7);
            house.passes(1);
            Check.due(one[1] + " of " + one[0], house.knows(0, 0), one[2]);
        }
        Chipcardhouse held = houseOf(1000);
        held.pay(0, 0, 999, 7);
        held.pay(1, 0, 2, 7);
        held.pay(1, 0, 1, 7);
        held.pay(1, 0, 1, 7);
        held.passes(1);
        int[] answers = {1, 2, 1, 2};
        for (int i = 0; i < 4; i++) {
            Check.due("less what is held: " + i, held.knows(i, 0), answers[i]);
        }
    }

    private static void amountIsHeld() {
        Bound.term(5, 24, "Otherwise it is GRANTED, and the amount is held.");
        Chipcardhouse house = houseOf(1000);
        house.pay(0, 0, 1, 7);
        house.pay(0, 0, 1001, 7);
        house.pay(0, 0, 999, 7);
        house.passes(1);
        these(house, 0, 1, 1);
        these(house, 1, 2, 0);
        these(house, 2, 1, 999);
        Check.due("all is held", house.accountAt(0, 1), 1000);
        Check.due("the balance is as before", house.accountAt(0, 0), 1000);
    }

    private static void countersAreHeard() {
        Bound.term(5, 21, "(Behind reasons 4, 5 and 6, and when it is granted, the counter is heard.)");
        Chipcardhouse house = houseOf(1000);
        Check.due("none", house.cardAt(0, 8), 0);
        house.pay(0, 0, 600, 7);
        house.passes(1);
        Check.due("granted", house.cardAt(0, 8), 1);
        house.pay(0, 0, 600, 7);
        house.passes(1);
        Check.due("6", house.cardAt(0, 8), 2);
        house.freeze(0, true);
        house.pay(0, 0, 1, 7);
        house.passes(1);
        Check.due("5", house.cardAt(0, 8), 3);
        house.stolen(0);
        house.pay(0, 0, 1, 7);
        house.passes(1);
        Check.due("4", house.cardAt(0, 8), 4);
        house.faults(0, 0, 1, 1);
        house.pay(0, 0, 1, 7);
        house.passes(1);
        Check.due("doubled it is heard once", house.cardAt(0, 8), 5);
        Check.due("of the other card none", house.cardAt(1, 8), 0);
        house.setOpen(false);
        house.pay(0, 0, 1, 7);
        house.passes(1);
        Check.due("not by the switch", house.cardAt(0, 8), 5);
        house.setOpen(true);
        Check.due("but by its note", house.cardAt(0, 8), 6);
        Check.due("a RECORD alone is no counter heard", postedHouse(100).cardAt(0, 8), 0);
        Chipcardhouse full = houseOf200();
        for (int card = 0; card < 2; card++) {
            Check.due("all that a card can have", full.cardAt(card, 8), card == 0 ? 200 : 0);
        }
    }

    /** A house with 200 payments of one card that are GRANTED. */
    private static Chipcardhouse houseOf200() {
        Chipcardhouse house = houseOf(1000);
        for (int i = 0; i < 200; i++) {
            house.pay(0, 0, 1, 7);
        }
        house.passes(2);
        return house;
    }

    // ---- notes

    private static void notes() {
        whateverIsFree();
        neitherTakenBackNorPosted();
        keepsThatItWasGranted();
    }

    private static void whateverIsFree() {
        Bound.term(5, 15, "the amount is held, whatever is free");
        Chipcardhouse house = houseOf(0);
        house.stolen(0);
        house.freeze(0, true);
        house.setOpen(false);
        house.pay(0, 0, 1000, 7);
        house.pay(1, 0, 1, 7);
        house.passes(1);
        Check.due("not before it opens", house.accountAt(0, 1), 0);
        house.setOpen(true);
        these(house, 0, 0, 1000, 0, 0, 0, 1, 0, -1);
        these(house, 1, 0, 1, 0, 0, 0, 1, 0, -1);
        Check.due("held of nothing", house.accountAt(0, 1), 1001);
        Check.due("free", house.accountAt(0, 2), -1001);
        Check.due("the balance", house.accountAt(0, 0), 0);
        house.passes(1);
        house.sends(0);
        house.passes(1);
        Check.due("POSTED below 0", house.accountAt(0, 0), -1001);
        Check.due("nothing is held", house.accountAt(0, 1), 0);
        Check.due("no error", house.errors(), 0);
    }

    private static void neitherTakenBackNorPosted() {
        Bound.term(5, 15, "and if it is neither TAKEN BACK nor POSTED, and the payment has no hold");
        Chipcardhouse posted = postedHouse(100);
        posted.pay(0, 0, 50, 7);
        posted.forge(0, 1, 2);
        posted.passes(1);
        posted.setOpen(false);
        posted.setHouse(20000, 100, 1);
        posted.shop(0, 0);
        posted.pay(0, 1, 300, 7);
        posted.passes(2);
        Check.due("granted by the switch", posted.paymentAt(2, 8), 2);
        Check.due("a note", posted.setOpen(true), 1);
        these(posted, 2, 0, 0, 1, 0, 0, 1, 50, 0);
        Check.due("nothing is held", posted.accountAt(0, 1), 0);
        Check.due("its counter is heard", posted.cardAt(0, 8), 1);
        posted.sends(1);
        posted.passes(2);
        Check.due("its RECORD is nothing more", posted.accountAt(0, 0), 9850);
        Check.due("and no reason to be REJECTED", posted.knows(2, 4), 0);
        Check.due("no error", posted.errors(), 0);
    }

    private static void keepsThatItWasGranted() {
        Bound.term(5, 23, "the issuer keeps that the switch granted the payment");
        Chipcardhouse house = houseOf(1000);
        house.setOpen(false);
        house.pay(0, 0, 600, 7);
        house.pay(0, 0, 1001, 7);
        house.passes(2);
        these(house, 0, 0, 0, 0, 0, 0, 0);
        house.setOpen(true);
        these(house, 0, 0, 600, 0, 0, 0, 1);
        these(house, 1, 0, 0, 0, 0, 0, 0);
        house.sends(0);
        house.passes(1);
        these(house, 0, 0, 0, 1, 0, 0, 1, 600, 0);
    }

    // ---- TAKE BACKs

    private static void takeBacks() {
        Bound.term(5, 23, "A TAKE BACK: the payment is TAKEN BACK, if it is not POSTED; its hold ends.");
        Chipcardhouse house = houseOf(1000);
        house.faults(0, 1, 0, 2);
        house.pay(0, 0, 600, 7);
        house.pay(0, 0, 1001, 7);
        house.passes(8);
        these(house, 0, 1, 600, 0, 0);
        house.passes(1);
        these(house, 0, 1, 0, 0, 1);
        these(house, 1, 2, 0, 0, 1);
        Check.due("nothing is held", house.accountAt(0, 1), 0);
        Check.due("the balance", house.accountAt(0, 0), 1000);
        Chipcardhouse posted = houseOf(1000);
        posted.faults(0, 1, 0, 1);
        posted.pay(0, 0, 500, 7);
        posted.passes(7);
        posted.faults(0, 0, 0, 1);
        posted.passes(1);
        Check.due("PAID behind giving up, its TAKE BACK is lost", posted.paymentAt(0, 0), 0);
        posted.sends(0);
        posted.passes(1);
        these(posted, 0, 1, 0, 1, 0, 0, 0, 500, 0);
        posted.passes(11);
        these(posted, 0, 1, 0, 1, 0, 0, 0, 500, 0);
        Bound.term(5, 23, "It is DONE in any case.");
        Check.due("of a POSTED one", posted.shopAt(0, 3), 0);
        house.passes(1);
        Check.due("of one that is not POSTED", house.shopAt(0, 3), 0);
        Chipcardhouse never = houseOf(1000);
        never.faults(0, 0, 0, 1);
        never.faults(0, 0, 1, 1);
        never.pay(0, 0, 501, 7);
        never.passes(9);
        Check.due("of one without an ASK, doubled", never.shopAt(0, 5), 2);
        never.passes(1);
        Check.due("it is heard", never.shopAt(0, 3), 0);
        these(never, 0, 0, 0, 0, 1);
    }

    // ---- RECORDs

    private static void records() {
        doneInAnyCase();
        postedAlready();
        noOtherWithThisCounter();
        rightForTheShop();
        grantedOnes();
        toPost();
        rejected();
    }

    private static void doneInAnyCase() {
        Bound.term(5, 10, "A RECORD is DONE in any case.");
        Chipcardhouse house = postedHouse(100);
        house.pay(0, 0, 50, 7);
        house.forge(0, 1, 5);
        house.sends(0);
        house.faults(0, 1, 0, 1);
        house.passes(1);
        Check.due("REJECTED, for its counter is POSTED as 5", house.knows(1, 4), 1);
        house.passes(1);
        Check.due("and DONE", house.shopAt(0, 3), 0);
    }

    private static void postedAlready() {
        Bound.term(5, 10, "If this payment is POSTED already, nothing more.");
        Chipcardhouse house = postedHouse(100);
        house.pay(0, 0, 50, 7);
        house.forge(0, 0, 0);
        house.forge(0, 1, 0);
        house.passes(1);
        these(house, 0, 0, 0, 1, 0, 0, 0, 100, 0);
        Check.due("the balance", house.accountAt(0, 0), 9900);
        Check.due("in between", house.shopAt(0, 1), 100);
        house.sends(0);
        house.passes(1);
        Check.due("the other one is POSTED under its own number", house.knows(1, 2), 1);
        house.endDay();
        house.forge(0, 0, 0);
        house.passes(1);
        Check.due("the day stays", house.knows(0, 7), 0);
    }

    private static void noOtherWithThisCounter() {
        Bound.term(5, 12, "It is posted, if no other payment with this card and counter is POSTED");
        Chipcardhouse house = postedHouse(100);
        house.card(0, 7, 9, 5000);
        house.pay(1, 0, 60, 7);
        house.sends(0);
        house.forge(0, 0, 999);
        house.passes(1);
        Check.due("the same counter of another card", house.knows(1, 2), 1);
        these(house, 999, 0, 0, 0, 0, 1);
        house.pay(0, 0, 70, 7);
        house.sends(0);
        house.passes(1);
        Check.due("the next counter of the card", house.knows(2, 2), 1);
        Check.due("three", house.count(6), 3);
        Check.due("each once", house.accountAt(0, 0), 9770);
        Check.due("no error", house.errors(), 0);
        lastCounterOfAll();
    }

    private static void lastCounterOfAll() {
        Chipcardhouse house = houseOf(1000);
        for (int i = 0; i < 199; i++) {
            house.pay(0, 0, 1, 7);
        }
        house.faults(0, 0, 0, 1);
        house.pay(0, 0, 1, 7);
        house.passes(8);
        Check.due("the last one is PAID behind giving up", house.paymentAt(199, 0), 0);
        Check.due("its counter", house.paymentAt(199, 4), 200);
        Check.due("all", house.sends(0), 200);
        house.forge(0, 199, 999);
        house.passes(1);
        Check.due("all are POSTED", house.count(6), 200);
        these(house, 999, 0, 0, 0, 0, 1);
        Check.due("no error", house.errors(), 0);
    }

    private static void rightForTheShop() {
        Bound.term(5, 12, "of a PAID one, there is such a card, and the stamp of the sort 1 is right for the shop on whose "
                + "line it came");
        Chipcardhouse house = new Chipcardhouse();
        house.account(10000);
        for (int i = 0; i < 4; i++) {
            house.shop(500, 0);
        }
        house.card(0, 7, 9, 5000);
        house.pay(0, 3, 50, 7);
        for (int shop = 0; shop < 4; shop++) {
            house.forge(shop, 0, 900 + shop);
        }
        house.passes(1);
        for (int shop = 0; shop < 4; shop++) {
            these(house, 900 + shop, 0, 0, shop == 3 ? 1 : 0, 0, shop == 3 ? 0 : 1);
            Check.due("in between for shop " + shop, house.shopAt(shop, 1), shop == 3 ? 50 : 0);
        }
    }

    private static void grantedOnes() {
        Bound.term(5, 10, "of one that was GRANTED by the issuer, the issuer granted it, it is not TAKEN BACK, and card, "
                + "counter and amount are those of the ASK");
        Chipcardhouse house = houseOf(1000);
        house.pay(0, 0, 1000, 7);
        house.passes(2);
        house.sends(0);
        house.passes(1);
        these(house, 0, 1, 0, 1, 0, 0, 0, 1000, 0);
        Bound.term(5, 10, "of one that was GRANTED by the switch, the issuer heard a note of it, it is not TAKEN BACK, and "
                + "card, counter and amount are those of the note");
        Chipcardhouse closed = houseOf(1000);
        closed.setOpen(false);
        closed.pay(0, 0, 1000, 7);
        closed.passes(2);
        closed.sends(0);
        closed.passes(1);
        these(closed, 0, 0, 0, 0, 0, 0, 0, 0, -1);
        closed.setOpen(true);
        closed.passes(10);
        these(closed, 0, 0, 0, 1, 0, 0, 1, 1000, 0);
    }

    private static void toPost() {
        Bound.term(5, 24, "To post: the hold of the payment, if there is one, ends; the account's balance becomes less by "
                + "the amount, and what stands in between for the shop becomes more by it.");
        Chipcardhouse house = houseOf(1000);
        house.pay(0, 0, 600, 7);
        house.passes(2);
        Check.due("held before", house.accountAt(0, 1), 600);
        house.sends(0);
        house.passes(1);
        Check.due("held behind it", house.accountAt(0, 1), 0);
        Check.due("the balance", house.accountAt(0, 0), 400);
        Check.due("in between", house.shopAt(0, 1), 600);
        Chipcardhouse none = postedHouse(50000);
        Check.due("without a hold", none.accountAt(0, 0), -40000);
        Check.due("nothing is held", none.accountAt(0, 1), 0);
        Check.due("in between", none.shopAt(0, 1), 50000);
        holdOfAnotherPayment();
    }

    private static void holdOfAnotherPayment() {
        Chipcardhouse house = postedHouse(100);
        house.pay(0, 0, 50, 7);
        house.pay(0, 0, 50001, 7);
        house.account(60000);
        house.card(1, 7, 0, 0);
        house.pay(1, 0, 50001, 7);
        house.passes(1);
        Check.due("held for number 3", house.accountAt(1, 1), 50001);
        house.forge(0, 1, 3);
        house.passes(1);
        Check.due("a copy as number 3 ends that hold", house.accountAt(1, 1), 0);
        Check.due("and takes from the account of its card", house.accountAt(0, 0), 9850);
        Check.due("not of the other", house.accountAt(1, 0), 60000);
        Check.due("no error", house.errors(), 0);
    }

    private static void rejected() {
        Bound.term(5, 23, "Otherwise its number is REJECTED (it stays so, also if it is posted by another RECORD later).");
        Chipcardhouse house = postedHouse(100);
        Check.due("none", house.count(7), 0);
        house.pay(0, 0, 50, 7);
        house.forge(0, 0, 1);
        house.passes(1);
        these(house, 1, 0, 0, 0, 0, 1, 0, 0, -1);
        Check.due("one", house.count(7), 1);
        house.forge(0, 0, 1);
        house.passes(1);
        Check.due("one still", house.count(7), 1);
        house.sends(0);
        house.passes(1);
        these(house, 1, 0, 0, 1, 0, 1, 0, 50, 0);
        Check.due("one still", house.count(7), 1);
        Check.due("two are POSTED", house.count(6), 2);
    }

    // ---- BACK MONEY

    private static void moneyBack() {
        whatIsLeft();
        onTheLineOfThisShop();
        canBecomeBelowZero();
        heardOnce();
        aheadOfItsRecord();
    }

    private static void whatIsLeft() {
        Bound.term(5, 11, "with an amount that is not above what is left of it (its amount less what went back before)");
        Chipcardhouse house = postedHouse(100);
        int[][] all = {{101, 100}, {1, 99}, {99, 0}, {1, 0}, {100000, 0}};
        for (int[] one : all) {
            house.backMoney(0, 0, one[0]);
            house.passes(1);
            Check.due("left behind " + one[0], house.knows(0, 6), one[1]);
            Check.due("the balance behind " + one[0], house.accountAt(0, 0), 10000 - one[1]);
            Check.due("in between behind " + one[0], house.shopAt(0, 1), one[1]);
        }
        Check.due("it is POSTED still", house.knows(0, 2), 1);
        Chipcardhouse all100 = postedHouse(100);
        all100.backMoney(0, 0, 100);
        all100.passes(1);
        Check.due("all at once", all100.knows(0, 6), 0);
    }

    private static void onTheLineOfThisShop() {
        Bound.term(5, 11, "A BACK MONEY for a payment that is POSTED by a RECORD on the line of this shop");
        Chipcardhouse house = postedHouse(100);
        house.shop(500, 0);
        house.pay(0, 1, 50, 7);
        house.pay(0, 0, 60, 7);
        house.forge(1, 1, 2);
        house.passes(1);
        these(house, 2, 0, 0, 1, 0, 0, 0, 50, 0);
        house.backMoney(0, 2, 5);
        house.backMoney(1, 1, 5);
        house.passes(1);
        Check.due("number 2 is POSTED by a RECORD of shop 1", house.knows(2, 6), 50);
        Check.due("number 1 is not POSTED", house.knows(1, 2), 0);
        Check.due("nothing went back", house.accountAt(0, 0), 9850);
        house.passes(1);
        Check.due("shop 0 is done with it all the same", house.shopAt(0, 3), 0);
        Check.due("shop 1 too", house.shopAt(1, 3), 0);
    }

    private static void canBecomeBelowZero() {
        Bound.term(5, 11, "the amount goes from what stands in between for the shop (which can become below 0) to the "
                + "balance; otherwise nothing");
        Chipcardhouse house = postedHouse(100);
        house.endDay();
        house.backMoney(0, 0, 1);
        house.passes(1);
        Check.due("below 0", house.shopAt(0, 1), -1);
        Check.due("the balance", house.accountAt(0, 0), 9901);
        house.backMoney(0, 0, 99);
        house.passes(1);
        Check.due("farther below", house.shopAt(0, 1), -100);
        Check.due("the shop's money is as before", house.shopAt(0, 0), 99);
        Check.due("no error", house.errors(), 0);
    }

    private static void heardOnce() {
        Bound.term(5, 11, "It is heard once for each number of the shop");
        Chipcardhouse house = postedHouse(100);
        house.shop(500, 0);
        house.pay(0, 1, 50, 7);
        house.sends(1);
        house.passes(1);
        house.faults(0, 0, 1, 2);
        house.backMoney(0, 0, 5);
        house.backMoney(0, 0, 5);
        house.backMoney(1, 1, 5);
        house.passes(1);
        Check.due("two numbers, each of them doubled", house.knows(0, 6), 90);
        Check.due("number 0 of the other shop", house.knows(1, 6), 45);
        Check.due("four are DONE", house.shopAt(0, 5), 4);
    }

    private static void aheadOfItsRecord() {
        Bound.term(5, 11, "(one that comes ahead of its RECORD does nothing, for good), and DONE in any case");
        Chipcardhouse house = Check.house();
        house.pay(0, 0, 100, 7);
        house.faults(0, 1, 0, 1);
        house.backMoney(0, 0, 5);
        house.sends(0);
        house.passes(1);
        Check.due("POSTED behind it", house.knows(0, 6), 100);
        Check.due("its DONE is lost", house.shopAt(0, 5), 1);
        house.passes(10);
        Check.due("sent again it does nothing", house.knows(0, 6), 100);
        house.passes(1);
        Check.due("but it is DONE", house.shopAt(0, 3), 0);
        house.backMoney(0, 0, 5);
        house.passes(1);
        Check.due("another number does", house.knows(0, 6), 95);
    }

    // ---- days

    private static void days() {
        feesOf(0, new int[] {1, 50000}, new int[] {0, 0});
        feesOf(100, new int[] {1, 99, 100, 199, 200, 50000}, new int[] {0, 0, 1, 1, 2, 500});
        feesOf(500, new int[] {1, 19, 20, 39, 40, 50000}, new int[] {0, 0, 1, 1, 2, 2500});
        feesOf(1, new int[] {9999, 10000, 19999, 20000}, new int[] {0, 1, 1, 2});
        dayByDay();
        nothingInBetween();
        belowZero();
        eachShop();
        nextDay();
        issuerNeedNotBeOpen();
    }

    private static void feesOf(int fee, int[] amounts, int[] fees) {
        Bound.term(6, 20, "if what stands in between for it is above 0, the fee (the house's fee, 0 to 500 in hundredths of "
                + "a percent, of that, rounded down; 100 at first) goes to the house and the rest to the shop");
        for (int i = 0; i < amounts.length; i++) {
            Chipcardhouse house = postedHouse(amounts[i]);
            if (fee != 100) {
                house.setHouse(1000, fee, 1);
            }
            house.endDay();
            Check.due("the fee of " + amounts[i] + " at " + fee, house.fees(), fees[i]);
            Check.due("the rest of " + amounts[i], house.shopAt(0, 0), amounts[i] - fees[i]);
            Check.due("in between", house.shopAt(0, 1), 0);
            Check.due("no error", house.errors(), 0);
        }
    }

    private static void nothingInBetween() {
        Bound.term(6, 20, "As a day ends (endDay()): for each shop, by their numbers");
        Chipcardhouse empty = new Chipcardhouse();
        Check.due("without shops", empty.endDay(), 1);
        Chipcardhouse house = postedHouse(100);
        house.backMoney(0, 0, 100);
        house.passes(1);
        house.endDay();
        Check.due("nothing for the shop", house.shopAt(0, 0), 0);
        Check.due("nothing for the house", house.fees(), 0);
        Check.due("nothing in between", house.shopAt(0, 1), 0);
    }

    /** A house whose shop has 99 and lacks so much in between. */
    private static Chipcardhouse lackingHouse(int lacks) {
        Chipcardhouse house = postedHouse(100);
        house.endDay();
        house.backMoney(0, 0, lacks);
        house.passes(1);
        house.endDay();
        return house;
    }

    private static void belowZero() {
        Bound.term(6, 20, "if it is below 0, what it lacks to 0, or as much of that as the shop has, goes from the shop to "
                + "it, and nothing else (no fee)");
        int[][] all = {{1, 98, 0}, {98, 1, 0}, {99, 0, 0}, {100, 0, -1}};
        for (int[] one : all) {
            Chipcardhouse house = lackingHouse(one[0]);
            Check.due("the shop's money less " + one[0], house.shopAt(0, 0), one[1]);
            Check.due("in between", house.shopAt(0, 1), one[2]);
            Check.due("no fee", house.fees(), 1);
            Check.due("no error", house.errors(), 0);
        }
        Chipcardhouse none = lackingHouse(100);
        none.endDay();
        Check.due("a shop that has nothing gives nothing", none.shopAt(0, 1), -1);
        none.pay(0, 0, 1, 7);
        none.sends(0);
        none.passes(1);
        none.endDay();
        Check.due("1 more makes 0", none.shopAt(0, 1), 0);
        Check.due("nothing is left for the shop", none.shopAt(0, 0), 0);
        none.pay(0, 0, 1, 7);
        none.sends(0);
        none.passes(1);
        none.endDay();
        Check.due("then it has 1", none.shopAt(0, 0), 1);
    }

    private static void dayByDay() {
        Bound.term(6, 20, "goes to the house and the rest to the shop");
        Chipcardhouse house = postedHouse(100);
        for (int day = 1; day <= 3; day++) {
            house.endDay();
            Check.due("the shop's money behind the day", house.shopAt(0, 0), 99 * day);
            Check.due("the house's", house.fees(), day);
            house.pay(0, 0, 100, 7);
            house.sends(0);
            house.passes(1);
        }
    }

    private static void eachShop() {
        Bound.term(6, 20, "or as much of that as the shop has");
        Chipcardhouse house = postedHouse(100);
        house.shop(500, 0);
        house.pay(0, 1, 200, 7);
        house.sends(1);
        house.passes(1);
        house.endDay();
        house.backMoney(0, 0, 100);
        house.passes(1);
        house.endDay();
        Check.due("shop 0 has too little", house.shopAt(0, 1), -1);
        Check.due("shop 1 does not help", house.shopAt(1, 0), 198);
        Check.due("nor does the house", house.fees(), 3);
    }

    private static void nextDay() {
        Bound.term(6, 20, "Then the next day begins.");
        Chipcardhouse house = Check.house();
        for (int day = 1; day <= 40; day++) {
            Check.due("the day", house.endDay(), day);
            Check.due("it is this day", house.count(1), day);
        }
        Check.due("the tick is as before", house.count(0), 0);
    }

    private static void issuerNeedNotBeOpen() {
        Bound.term(6, 20, "(The issuer need not be open.)");
        Chipcardhouse house = postedHouse(100);
        house.setOpen(false);
        Check.due("the day ends", house.endDay(), 1);
        Check.due("and settles", house.shopAt(0, 0), 99);
        Check.due("it is closed still", house.count(9), 0);
    }

    // ---- disputes

    /** A house with a payment of 100 by touching that is POSTED on the day 2. */
    private static Chipcardhouse touchedHouse() {
        Chipcardhouse house = Check.house();
        house.pay(0, 0, 100, TOUCH);
        house.endDay();
        house.endDay();
        house.sends(0);
        house.passes(1);
        return house;
    }

    private static void disputes() {
        daysOfDispute();
        byTouching();
        postedAndNotYet();
        whatIsLeftOfIt();
        refusedOnes();
    }

    private static void daysOfDispute() {
        Bound.term(6, 19, "on the day on which it was posted or the day behind it");
        for (int later = 0; later <= 3; later++) {
            Chipcardhouse house = touchedHouse();
            for (int i = 0; i < later; i++) {
                house.endDay();
            }
            if (later <= 1) {
                Check.due("so many days later: " + later, house.dispute(0), 100);
                Check.due("all is back", house.accountAt(0, 0), 10000);
            } else {
                Check.late("so many days later: " + later, house, () -> house.dispute(0));
            }
        }
    }

    private static void byTouching() {
        Bound.term(6, 19, "A DISPUTE about a payment that was paid by touching");
        Chipcardhouse house = Check.house();
        house.pay(0, 0, 100, 7);
        house.pay(0, 0, 2500, TOUCH);
        house.pay(0, 0, 100, TOUCH);
        house.passes(2);
        house.sends(0);
        house.passes(1);
        Check.late("with a PIN", house, () -> house.dispute(0));
        Check.due("touching, asked and GRANTED", house.dispute(1), 2500);
        Check.due("touching", house.dispute(2), 100);
    }

    private static void postedAndNotYet() {
        Bound.term(6, 19, "whose number is POSTED and was not disputed yet");
        Chipcardhouse house = Check.house();
        house.pay(0, 0, 100, TOUCH);
        house.pay(0, 0, 50, TOUCH);
        Check.late("not sent", house, () -> house.dispute(0));
        house.sends(0);
        Check.late("not come", house, () -> house.dispute(0));
        house.passes(1);
        Check.due("POSTED", house.dispute(0), 100);
        Check.late("disputed already", house, () -> house.dispute(0));
        house.endDay();
        Check.late("disputed already on the day before", house, () -> house.dispute(0));
        Check.due("the other was not", house.dispute(1), 50);
        Chipcardhouse again = Check.house();
        again.pay(0, 0, 100, TOUCH);
        Check.late("refused once", again, () -> again.dispute(0));
        again.sends(0);
        again.passes(1);
        Check.due("what was refused is not disputed", again.dispute(0), 100);
    }

    private static void whatIsLeftOfIt() {
        Bound.term(6, 19, "what is left of the amount that was POSTED goes back to the account of the card of that RECORD, "
                + "from what stands in between for the shop on whose line it came, and nothing is left then");
        int[][] all = {{0, 100}, {1, 99}, {99, 1}, {100, 0}};
        for (int[] one : all) {
            Chipcardhouse house = touchedHouse();
            if (one[0] > 0) {
                house.backMoney(0, 0, one[0]);
                house.passes(1);
            }
            Check.due("behind " + one[0] + " back", house.dispute(0), one[1]);
            Check.due("nothing is left", house.knows(0, 6), 0);
            Check.due("the balance", house.accountAt(0, 0), 10000);
            Check.due("in between", house.shopAt(0, 1), 0);
            house.backMoney(0, 0, 1);
            house.passes(1);
            Check.due("nothing more goes back", house.accountAt(0, 0), 10000);
        }
        Chipcardhouse settled = touchedHouse();
        settled.endDay();
        Check.due("behind the day", settled.dispute(0), 100);
        Check.due("in between below 0", settled.shopAt(0, 1), -100);
        Check.due("no error", settled.errors(), 0);
        ofTheRecord();
    }

    private static void ofTheRecord() {
        Chipcardhouse house = Check.house();
        house.account(1000);
        house.card(1, 7, 9, 5000);
        house.shop(500, 0);
        house.pay(1, 1, 100, 7);
        house.pay(0, 0, 60, TOUCH);
        house.forge(1, 0, 1);
        house.passes(1);
        Check.due("POSTED by a copy: its amount", house.dispute(1), 100);
        Check.due("its card's account", house.accountAt(1, 0), 1000);
        Check.due("its shop", house.shopAt(1, 1), 0);
        Check.due("the payment's own account is as before", house.accountAt(0, 0), 10000);
    }

    private static void refusedOnes() {
        Bound.term(6, 19, "Others are refused.");
        Chipcardhouse house = Check.house();
        house.faults(0, 0, 0, 1);
        house.pay(0, 0, 501, TOUCH);
        house.freeze(0, true);
        house.pay(0, 0, 600, TOUCH);
        house.passes(8);
        house.pay(0, 0, 502, TOUCH);
        for (int i = 0; i < 3; i++) {
            int payment = i;
            Check.late("GIVEN UP, DENIED, ASKING: " + i, house, () -> house.dispute(payment));
        }
    }

    // ---- promises 16 to 18

    private static void promisesOfTells() {
        Bound.promise(16, "`card`: a card");
        Bound.exist(2, () -> houseOf(10), (house, n) -> house.tells(n, 1));
        Bound.promise(16, "`what`: 1 to 3 (section 3)");
        Bound.rangeOfArgument(1, 3, () -> houseOf(10), (house, n) -> house.tells(0, n));
        Bound.promise(16, "Lets the issuer tell a card something with its next answer.");
        Chipcardhouse house = houseOf(10);
        house.tells(0, 2);
        Check.due("not at once", house.cardAt(0, 5), 0);
        house.pay(0, 0, 1, 7);
        house.passes(1);
        Check.due("not as it is answered", house.cardAt(0, 5), 0);
        house.passes(1);
        Check.due("as the answer comes", house.cardAt(0, 5), 1);
        Bound.promise(16, "Returns how many different things wait for the next answer then.");
        Check.due("none waits: one", house.tells(0, 2), 1);
        Check.due("the same", house.tells(0, 2), 1);
        Check.due("two", house.tells(0, 3), 2);
        Check.due("three", house.tells(0, 1), 3);
        Check.due("three still", house.tells(0, 3), 3);
        Check.due("of the other card one", house.tells(1, 3), 1);
        Bound.promise(16, "Throws `IndexOutOfBoundsException` if there is no such card");
        Bound.noneExists(Chipcardhouse::new, (empty, n) -> empty.tells(n, 1));
        Check.none("and what is wrong", house, () -> house.tells(2, 0));
        Bound.promise(16, "Throws `IllegalArgumentException` if what is out of range");
        Check.bad("0", house, () -> house.tells(0, 0));
        Check.bad("4", house, () -> house.tells(0, 4));
        Check.due("nothing was told by that", house.tells(1, 3), 1);
    }

    private static void promisesOfStolenAndFreeze() {
        Bound.promise(17, "`card`: a card");
        Bound.exist(2, () -> houseOf(10), Chipcardhouse::stolen);
        Bound.promise(17, "Tells the issuer that a card is stolen.");
        Chipcardhouse house = houseOf(10);
        house.stolen(0);
        house.pay(0, 0, 1, 7);
        house.pay(1, 0, 1, 7);
        house.passes(2);
        Check.due("it is denied", house.paymentAt(0, 7), 4);
        Check.due("the other is not", house.paymentAt(1, 0), 2);
        Bound.promise(17, "Returns whether it knew that.");
        Check.due("it knew", house.stolen(0), true);
        Check.due("not of the other", house.stolen(1), false);
        Check.due("then it knew", house.stolen(1), true);
        Check.due("and knows", house.stolen(1), true);
        Bound.promise(17, "Throws `IndexOutOfBoundsException` if there is no such card");
        Bound.noneExists(Chipcardhouse::new, Chipcardhouse::stolen);
        Bound.promise(18, "`account`: an account");
        Bound.exist(1, () -> houseOf(10), (one, n) -> one.freeze(n, true));
        Bound.promise(18, "Freezes an account, or lets it be free.");
        house.freeze(0, true);
        Check.due("frozen", house.accountAt(0, 3), 1);
        house.freeze(0, false);
        Check.due("free", house.accountAt(0, 3), 0);
        Bound.promise(18, "`isFrozen`: whether it is frozen then");
        house.freeze(0, false);
        Check.due("free still", house.accountAt(0, 3), 0);
        house.freeze(0, true);
        house.freeze(0, true);
        Check.due("frozen still", house.accountAt(0, 3), 1);
        Bound.promise(18, "Returns whether it was.");
        Check.due("it was", house.freeze(0, false), true);
        Check.due("it was not", house.freeze(0, false), false);
        Check.due("it was not", house.freeze(0, true), false);
        Check.due("it was", house.freeze(0, true), true);
        Bound.promise(18, "Throws `IndexOutOfBoundsException` if there is no such account");
        Bound.noneExists(Chipcardhouse::new, (empty, n) -> empty.freeze(n, false));
    }

    // ---- promises 19 and 20

    private static Chipcardhouse threePosted() {
        Chipcardhouse house = Check.house();
        for (int i = 1; i <= 3; i++) {
            house.pay(0, 0, i, TOUCH);
        }
        house.sends(0);
        house.passes(1);
        return house;
    }

    private static void promisesOfDispute() {
        Bound.promise(19, "`payment`: a payment");
        Bound.exist(3, BoundsOfIssuer::threePosted, Chipcardhouse::dispute);
        Bound.promise(19, "Disputes a payment.");
        Chipcardhouse house = threePosted();
        house.dispute(2);
        Check.due("that one", house.knows(2, 6), 0);
        Check.due("no other", house.knows(1, 6), 2);
        Bound.promise(19, "Returns the amount that went back.");
        Check.due("of the first", house.dispute(0), 1);
        house.backMoney(0, 1, 2);
        house.passes(1);
        Check.due("of one of which nothing is left", house.dispute(1), 0);
        Bound.promise(19, "Throws `IndexOutOfBoundsException` if there is no such payment");
        Bound.noneExists(Check::house, Chipcardhouse::dispute);
        house.pay(0, 0, 5, 7);
        house.forge(0, 3, 7);
        house.passes(1);
        Check.due("a number is POSTED", house.knows(7, 2), 1);
        Check.none("but there is no such payment", house, () -> house.dispute(7));
        Bound.promise(19, "Throws `IllegalStateException` if it is refused (section 6)");
        for (int i = 0; i < 3; i++) {
            int payment = i;
            Check.late("disputed already", house, () -> house.dispute(payment));
        }
        Check.late("paid with a PIN", house, () -> house.dispute(3));
    }

    private static void promisesOfEndDay() {
        Bound.promise(20, "Ends the day.");
        Chipcardhouse house = threePosted();
        house.endDay();
        Check.due("the day", house.count(1), 1);
        Check.due("it is settled", house.shopAt(0, 1), 0);
        Bound.promise(20, "Returns the number of the day that begins.");
        Check.due("the first that begins", new Chipcardhouse().endDay(), 1);
        Check.due("the second", house.endDay(), 2);
        house.passes(200);
        Check.due("ticks end no day", house.count(1), 2);
    }
}
