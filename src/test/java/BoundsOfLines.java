/** Boundary cases of section 4 and of the promises 13 to 15: lines and their faults, repeated messages, the switch. */
final class BoundsOfLines {
    private static final int UP = 0;
    private static final int DOWN = 1;
    private static final int LOST = 0;
    private static final int DOUBLED = 1;
    private static final int LATE = 2;

    private BoundsOfLines() {
    }

    static void run() {
        lines();
        faultsOfLines();
        keeping();
        repeating();
        thieves();
        batches();
        whileOpen();
        whileClosed();
        promisesOfPasses();
        promisesOfFaults();
        promisesOfSetOpen();
    }

    /** A house with four shops at which all payments ask, and four cards. */
    private static Chipcardhouse wideHouse() {
        Chipcardhouse house = new Chipcardhouse();
        house.account(100000);
        for (int i = 0; i < 4; i++) {
            house.shop(500, 1);
            house.card(0, 7, 9, 5000);
        }
        return house;
    }

    /** A house with a payment of 100 that is PAID. */
    private static Chipcardhouse paidHouse() {
        Chipcardhouse house = Check.house();
        house.pay(0, 0, 100, 7);
        return house;
    }

    // ---- lines

    private static void lines() {
        lineOfEachTerminal();
        delays();
        lateOnes();
        orderAtOneTick();
        shopOfTheLine();
    }

    private static void lineOfEachTerminal() {
        Bound.term(4, 25, "Between each terminal and the switch there are a line up and a line down.");
        Chipcardhouse house = wideHouse();
        for (int shop = 0; shop < 4; shop++) {
            for (int i = 0; i < shop; i++) {
                house.pay(shop, shop, 5, 7);
            }
        }
        for (int shop = 0; shop < 4; shop++) {
            Check.due("on the line up of shop " + shop, house.shopAt(shop, 4), shop);
            Check.due("on the line down", house.shopAt(shop, 5), 0);
        }
        house.passes(1);
        for (int shop = 0; shop < 4; shop++) {
            Check.due("then on the line up of shop " + shop, house.shopAt(shop, 4), 0);
            Check.due("then on the line down", house.shopAt(shop, 5), shop);
        }
    }

    private static void delays() {
        Bound.term(4, 13, "A message that is put on a line at the tick t comes at the tick t + d (d is the delay of the "
                + "house, 1 to 5; 1 at first)");
        for (int delay = 1; delay <= 5; delay++) {
            Chipcardhouse house = Check.house();
            house.setHouse(1000, 100, delay);
            house.passes(3);
            house.forge(0, house.pay(0, 0, 5, 7), 9);
            if (delay > 1) {
                house.passes(delay - 1);
            }
            Check.due("one tick before, with the delay " + delay, house.knows(9, 2), 0);
            Check.due("it is on the line up", house.shopAt(0, 4), 1);
            house.passes(1);
            Check.due("it comes", house.knows(9, 2), 1);
            Check.due("it is not on the line up", house.shopAt(0, 4), 0);
            Check.due("the DONE is on the line down", house.shopAt(0, 5), 1);
            if (delay > 1) {
                house.passes(delay - 1);
            }
            Check.due("so long", house.shopAt(0, 5), 1);
            house.passes(1);
            Check.due("and no longer", house.shopAt(0, 5), 0);
        }
    }

    private static void lateOnes() {
        Bound.term(4, 14, "or t + d + 4 if it is late");
        for (int delay = 1; delay <= 5; delay++) {
            Chipcardhouse house = paidHouse();
            house.setHouse(1000, 100, delay);
            house.faults(0, UP, LATE, 1);
            house.faults(0, DOWN, LATE, 1);
            house.forge(0, 0, 9);
            house.passes(delay + 3);
            Check.due("one tick before, with the delay " + delay, house.knows(9, 2), 0);
            house.passes(1);
            Check.due("it comes", house.knows(9, 2), 1);
            house.passes(delay + 3);
            Check.due("so long is the DONE on the line down", house.shopAt(0, 5), 1);
            house.passes(1);
            Check.due("and no longer", house.shopAt(0, 5), 0);
        }
    }

    private static void orderAtOneTick() {
        Bound.term(4, 13, "messages that come at one tick come in the order in which they were put on the line");
        Chipcardhouse house = Check.house();
        house.faults(0, UP, LATE, 1);
        house.pay(0, 0, 6000, 7);
        house.passes(1);
        house.setHouse(1000, 100, 4);
        house.pay(0, 0, 5000, 7);
        house.passes(2);
        house.setHouse(1000, 100, 2);
        house.pay(0, 0, 4500, 7);
        house.pay(0, 0, 4000, 7);
        house.passes(1);
        Check.due("nothing came", house.shopAt(0, 4), 4);
        house.passes(1);
        Check.due("all came", house.shopAt(0, 4), 0);
        int[] answers = {1, 2, 2, 1};
        for (int i = 0; i < 4; i++) {
            Check.due("what is answered to payment " + i, house.knows(i, 0), answers[i]);
        }
    }

    private static void shopOfTheLine() {
        Bound.term(4, 12, "(The shop of what comes up is that of its line.)");
        Chipcardhouse house = paidHouse();
        house.shop(500, 0);
        house.forge(1, 0, 8);
        house.passes(1);
        Check.due("on another shop's line the stamp is not right", house.knows(8, 4), 1);
        Check.due("nor is it POSTED", house.knows(8, 2), 0);
        house.forge(0, 0, 9);
        house.passes(1);
        Check.due("on its own shop's it is", house.knows(9, 2), 1);
        Check.due("for that shop", house.shopAt(0, 1), 100);
        Check.due("the other has nothing", house.shopAt(1, 1), 0);
    }

    // ---- faults

    private static void faultsOfLines() {
        firstSortOfWhichSomeAreLeft();
        lostCountsAsPut();
        doubledAreTwo();
        onThisOneLine();
    }

    private static void firstSortOfWhichSomeAreLeft() {
        Bound.term(4, 14, "each message takes the first sort of these, in this order, of which some are left");
        Chipcardhouse house = paidHouse();
        house.faults(0, UP, LATE, 2);
        house.faults(0, UP, DOUBLED, 2);
        house.faults(0, UP, LOST, 2);
        int[] onLine = {0, 0, 2, 4, 5, 6, 7};
        for (int i = 0; i < 7; i++) {
            house.forge(0, 0, 500 + i);
            Check.due("on the line behind message " + i, house.shopAt(0, 4), onLine[i]);
            Check.due("to be lost still", house.faults(0, UP, LOST, 0), Math.max(0, 1 - i));
            Check.due("to be doubled still", house.faults(0, UP, DOUBLED, 0), Math.min(2, Math.max(0, 3 - i)));
            Check.due("to be late still", house.faults(0, UP, LATE, 0), Math.min(2, Math.max(0, 5 - i)));
        }
        house.passes(1);
        Check.due("two are late", house.shopAt(0, 4), 2);
        house.faults(0, UP, LOST, 0);
        house.forge(0, 0, 600);
        Check.due("none is told: the next one is as it should be", house.shopAt(0, 4), 3);
    }

    private static void lostCountsAsPut() {
        Bound.term(4, 14, "can be told to be lost (they count as put all the same)");
        Chipcardhouse house = paidHouse();
        house.faults(0, UP, LOST, 1);
        house.sends(0);
        Check.due("it was sent", house.paymentAt(0, 9), 1);
        Check.due("it is kept", house.shopAt(0, 3), 1);
        Check.due("it is not on the line", house.shopAt(0, 4), 0);
        house.passes(9);
        Check.due("9 ticks ago: it is not put again", house.shopAt(0, 4), 0);
        house.faults(0, UP, LOST, 1);
        house.passes(1);
        Check.due("10 ticks ago: it is, and is lost again", house.faults(0, UP, LOST, 0), 0);
        house.passes(9);
        Check.due("9 ticks ago again", house.shopAt(0, 4), 0);
        house.passes(1);
        Check.due("10 ticks ago again", house.shopAt(0, 4), 1);
    }

    private static void doubledAreTwo() {
        Bound.term(4, 14, "doubled (two alike, one behind the other)");
        Chipcardhouse house = Check.house();
        house.faults(0, UP, DOUBLED, 1);
        house.pay(0, 0, 6000, 7);
        house.pay(0, 0, 4001, 7);
        Check.due("two and one", house.shopAt(0, 4), 3);
        house.passes(1);
        Check.due("both come at the same tick", house.shopAt(0, 4), 0);
        Check.due("three answers", house.shopAt(0, 5), 3);
        Check.due("one is held", house.accountAt(0, 1), 6000);
        Chipcardhouse both = paidHouse();
        both.faults(0, UP, DOUBLED, 1);
        both.faults(0, DOWN, DOUBLED, 2);
        both.sends(0);
        both.passes(1);
        Check.due("two are doubled again", both.shopAt(0, 5), 4);
        both.passes(1);
        Check.due("four are heard", both.shopAt(0, 3), 0);
        Check.due("one is POSTED", both.count(6), 1);
    }

    private static void onThisOneLine() {
        Bound.term(4, 14, "Of the next messages that are put on this one line");
        Chipcardhouse house = wideHouse();
        house.faults(1, DOWN, LOST, 1);
        for (int shop = 0; shop < 4; shop++) {
            house.pay(shop, shop, 5, 7);
        }
        house.passes(1);
        for (int shop = 0; shop < 4; shop++) {
            Check.due("on the line down of shop " + shop, house.shopAt(shop, 5), shop == 1 ? 0 : 1);
            Check.due("to be lost up", house.faults(shop, UP, LOST, 0), 0);
            Check.due("to be lost down", house.faults(shop, DOWN, LOST, 0), 0);
        }
    }

    // ---- what a terminal keeps

    private static void keeping() {
        untilDone();
        ofTheSameSort();
        ofTheSameNumber();
    }

    private static void untilDone() {
        Bound.term(4, 25, "A terminal keeps each TAKE BACK, RECORD and BACK MONEY until a DONE to it comes");
        Chipcardhouse house = Check.house();
        Check.due("none", house.shopAt(0, 3), 0);
        house.pay(0, 0, 100, 7);
        Check.due("a payment is not kept", house.shopAt(0, 3), 0);
        house.sends(0);
        Check.due("a RECORD", house.shopAt(0, 3), 1);
        house.backMoney(0, 0, 5);
        Check.due("a BACK MONEY", house.shopAt(0, 3), 2);
        house.passes(1);
        Check.due("heard, but the DONE did not come", house.shopAt(0, 3), 2);
        house.passes(1);
        Check.due("both are done", house.shopAt(0, 3), 0);
        house.setOpen(false);
        house.faults(0, UP, LOST, 1);
        house.pay(0, 0, 501, 7);
        Check.due("an ASK is not kept", house.shopAt(0, 3), 0);
        house.passes(8);
        Check.due("a TAKE BACK", house.shopAt(0, 3), 1);
        house.passes(30);
        Check.due("as long as nobody answers", house.shopAt(0, 3), 1);
    }

    private static void ofTheSameSort() {
        Bound.term(4, 25, "(of the same sort, payment and, of BACK MONEY, number)");
        Chipcardhouse house = new Chipcardhouse();
        house.account(1000);
        house.shop(500, 1);
        house.card(0, 7, 9, 5000);
        house.faults(0, UP, LOST, 2);
        house.pay(0, 0, 5, 7);
        house.passes(8);
        Check.due("the TAKE BACK is lost", house.shopAt(0, 4), 0);
        house.backMoney(0, 0, 1);
        house.sends(0);
        house.passes(2);
        Check.due("the DONE to RECORD and BACK MONEY do not count for it", house.shopAt(0, 3), 1);
        house.passes(10);
        Check.due("its own does", house.shopAt(0, 3), 0);
        Chipcardhouse two = paidHouse();
        two.pay(0, 0, 100, 7);
        two.faults(0, UP, LOST, 1);
        two.sends(0);
        two.passes(2);
        Check.due("the DONE to another payment's does not count", two.shopAt(0, 3), 1);
        Check.due("the second was heard", two.knows(1, 2), 1);
    }

    private static void ofTheSameNumber() {
        Bound.term(4, 25, "of BACK MONEY, number");
        Chipcardhouse house = paidHouse();
        house.sends(0);
        house.passes(2);
        house.faults(0, UP, LOST, 1);
        house.backMoney(0, 0, 5);
        house.backMoney(0, 0, 5);
        house.passes(2);
        Check.due("the DONE to number 1 does not count for number 0", house.shopAt(0, 3), 1);
        Check.due("5 went back", house.knows(0, 6), 95);
        house.passes(8);
        house.passes(1);
        Check.due("number 0 is sent again", house.knows(0, 6), 90);
        house.passes(1);
        Check.due("and done", house.shopAt(0, 3), 0);
    }

    // ---- what is sent again

    private static void repeating() {
        tenTicksAgo();
        atTheLatestTime();
        givesUpFirst();
        byTheirNumbers();
        inTheirOrder();
        askOnce();
    }

    private static void tenTicksAgo() {
        Bound.term(4, 13, "that were put on the line 10 ticks ago or more");
        Chipcardhouse house = paidHouse();
        house.faults(0, DOWN, LATE, 1);
        house.setHouse(1000, 100, 5);
        house.passes(2);
        house.sends(0);
        house.passes(9);
        Check.due("9 ticks ago", house.shopAt(0, 4), 0);
        house.passes(1);
        Check.due("10 ticks ago", house.shopAt(0, 4), 1);
        Check.due("the DONE is late", house.shopAt(0, 5), 1);
        house.passes(4);
        Check.due("then it came", house.shopAt(0, 3), 0);
        house.passes(1);
        Check.due("the other has come up", house.shopAt(0, 4), 0);
        house.passes(20);
        Check.due("what is done is not sent again", house.shopAt(0, 4), 0);
        Check.due("it is POSTED once", house.accountAt(0, 0), 9900);
        Chipcardhouse tenth = paidHouse();
        tenth.setHouse(1000, 100, 5);
        tenth.sends(0);
        tenth.passes(10);
        Check.due("a DONE at the 10th tick comes ahead of it", tenth.shopAt(0, 4), 0);
    }

    private static void atTheLatestTime() {
        Bound.term(4, 13, "at the latest time");
        Chipcardhouse house = paidHouse();
        house.setOpen(false);
        house.sends(0);
        for (int i = 1; i <= 3; i++) {
            house.passes(9);
            Check.due("not at the tick " + (10 * i - 1), house.shopAt(0, 4), 0);
            house.passes(1);
            Check.due("but at the tick " + 10 * i, house.shopAt(0, 4), 1);
        }
        Check.due("it is kept once", house.shopAt(0, 3), 1);
    }

    private static void givesUpFirst() {
        Bound.term(4, 13, "When it looks at the time, it first gives up payments");
        Chipcardhouse house = paidHouse();
        house.faults(0, UP, LOST, 2);
        house.sends(0);
        house.passes(2);
        house.pay(0, 0, 501, 7);
        house.passes(7);
        house.faults(0, UP, LOST, 1);
        house.passes(1);
        Check.due("given up at the tick 10", house.paymentAt(1, 0), 4);
        Check.due("one of two is lost", house.shopAt(0, 4), 1);
        house.passes(1);
        Check.due("the RECORD, that was sent again, is not", house.knows(0, 2), 1);
        Check.due("the TAKE BACK, that was put ahead of it, is", house.knows(1, 3), 0);
    }

    private static void byTheirNumbers() {
        Bound.term(4, 13, "by their numbers, and then sends those again");
        Chipcardhouse house = new Chipcardhouse();
        house.account(1000);
        house.shop(500, 1);
        house.card(0, 7, 9, 500);
        house.faults(0, UP, LOST, 3);
        house.pay(0, 0, 300, 7);
        house.pay(0, 0, 200, 7);
        house.pay(0, 0, 1, 7);
        house.passes(7);
        house.faults(0, UP, LOST, 1);
        house.passes(1);
        int[] states = {0, 0, 4};
        for (int i = 0; i < 3; i++) {
            Check.due("the state of " + i, house.paymentAt(i, 0), states[i]);
        }
        house.passes(1);
        int[] takenBack = {0, 1, 1};
        for (int i = 0; i < 3; i++) {
            Check.due("the TAKE BACK of 0 was put first, and lost: that of " + i, house.knows(i, 3), takenBack[i]);
        }
    }

    private static void inTheirOrder() {
        Bound.term(4, 13, "in the order in which they were first sent");
        Chipcardhouse house = paidHouse();
        house.sends(0);
        house.passes(2);
        house.faults(0, UP, LOST, 3);
        for (int amount : new int[] {70, 20, 60}) {
            house.backMoney(0, 0, amount);
        }
        house.passes(9);
        house.faults(0, UP, LOST, 1);
        house.passes(2);
        Check.due("the first is lost again, then come 20 and 60", house.knows(0, 6), 20);
        house.passes(10);
        Check.due("70 are more than is left", house.knows(0, 6), 20);
        Check.due("nothing went back for it", house.accountAt(0, 0), 9980);
    }

    private static void askOnce() {
        Bound.term(4, 13, "An ASK is sent once.");
        Chipcardhouse house = Check.house();
        house.faults(0, UP, LOST, 1);
        house.pay(0, 0, 501, 7);
        house.passes(8);
        Check.due("the TAKE BACK alone is on the line", house.shopAt(0, 4), 1);
        house.passes(40);
        Check.due("the ASK never came", house.knows(0, 0), 0);
    }

    // ---- thieves

    private static void thieves() {
        copiedStamp();
        itTellsPaid();
        nobodyKeepsIt();
    }

    private static void copiedStamp() {
        Bound.term(4, 12, "the card, the counter, the amount and the stamp are copied from a payment, the stamp as it has at "
                + "the moment (of a payment that was PAID behind giving up, that of the sort 1)");
        Chipcardhouse house = new Chipcardhouse();
        house.account(1000);
        house.shop(500, 1);
        house.card(0, 7, 9, 5000);
        house.faults(0, UP, LOST, 1);
        house.pay(0, 0, 5, 7);
        Check.due("ASKING", house.forge(0, 0, 700), Check.stamp(0, 1, 5, 0, 2));
        house.passes(7);
        Check.due("ASKING for 7 ticks", house.forge(0, 0, 701), Check.stamp(0, 1, 5, 0, 2));
        house.passes(1);
        Check.due("PAID behind giving up", house.forge(0, 0, 702), Check.stamp(0, 1, 5, 0, 1));
        house.passes(1);
        int[] posted = {0, 0, 1};
        for (int i = 0; i < 3; i++) {
            Check.due("is POSTED: " + i, house.knows(700 + i, 2), posted[i]);
            Check.due("is REJECTED: " + i, house.knows(700 + i, 4), 1 - posted[i]);
        }
        Check.due("the copied amount", house.knows(702, 6), 5);
    }

    private static void itTellsPaid() {
        Bound.term(4, 12, "It tells PAID, whatever the payment is.");
        Chipcardhouse house = Check.house();
        house.faults(0, UP, LOST, 1);
        house.pay(0, 0, 501, 7);
        house.pay(0, 0, 502, 7);
        house.pay(0, 0, 20000, 7);
        house.pay(0, 0, 5, 7);
        house.passes(8);
        house.pay(0, 0, 503, 7);
        int[] states = {4, 2, 3, 0, 1};
        for (int i = 0; i < 5; i++) {
            Check.due("the state of " + i, house.paymentAt(i, 0), states[i]);
            house.forge(0, i, 800 + i);
            house.forge(0, i, i);
        }
        house.passes(1);
        for (int i = 0; i < 5; i++) {
            Check.due("as another number", house.knows(800 + i, 2), states[i] == 0 ? 1 : 0);
            Check.due("as its own number", house.knows(i, 2), 0);
            Check.due("that is REJECTED", house.knows(i, 4), 1);
        }
    }

    private static void nobodyKeepsIt() {
        Bound.term(4, 12, "Nobody keeps it or sends it again; the DONE to it is heard by nobody, also if it is like one of "
                + "the terminal's own.");
        Chipcardhouse house = paidHouse();
        house.faults(0, UP, LOST, 1);
        house.sends(0);
        house.forge(0, 0, 0);
        Check.due("the terminal's own alone is kept", house.shopAt(0, 3), 1);
        house.passes(1);
        Check.due("it is POSTED by the copy", house.knows(0, 2), 1);
        Check.due("there is a DONE", house.shopAt(0, 5), 1);
        house.passes(1);
        Check.due("that came", house.shopAt(0, 5), 0);
        Check.due("the terminal keeps its own", house.shopAt(0, 3), 1);
        house.passes(8);
        Check.due("and sends it again", house.shopAt(0, 4), 1);
        house.passes(2);
        Check.due("until it is done", house.shopAt(0, 3), 0);
        house.faults(0, UP, LOST, 1);
        house.forge(0, 0, 9);
        house.passes(30);
        Check.due("a lost copy never comes", house.knows(9, 4), 0);
    }

    // ---- batches

    private static void batches() {
        Bound.term(4, 10, "A shop sends its batch by sends(): for each of its payments that is PAID or GRANTED");
        Chipcardhouse house = wideHouse();
        Check.due("none", house.sends(0), 0);
        house.faults(0, UP, LOST, 2);
        house.pay(0, 0, 5, 7);
        house.pay(0, 0, 501, 7);
        house.pay(0, 0, 6, 7);
        house.pay(0, 1, 8, 7);
        house.passes(1);
        house.freeze(0, true);
        house.pay(0, 0, 7, 7);
        Check.due("what asks is not sent", house.sends(0), 0);
        house.passes(7);
        int[] states = {0, 4, 2, 2, 3};
        for (int i = 0; i < 5; i++) {
            Check.due("the state of " + i, house.paymentAt(i, 0), states[i]);
        }
        Check.due("PAID and GRANTED, not GIVEN UP nor DENIED, nor the other shop's", house.sends(0), 2);
        Bound.term(4, 10, "for which no RECORD was sent yet");
        Check.due("both were sent", house.sends(0), 0);
        Check.due("the other shop's was not", house.sends(1), 1);
        Check.due("then it was", house.sends(1), 0);
        Bound.term(4, 10, "by their numbers, a RECORD");
        Chipcardhouse order = paidHouse();
        order.pay(0, 0, 200, 7);
        order.pay(0, 0, 300, 7);
        order.faults(0, UP, LOST, 1);
        order.faults(0, UP, DOUBLED, 1);
        Check.due("three", order.sends(0), 3);
        order.passes(1);
        Check.due("the first is lost", order.knows(0, 2), 0);
        Check.due("the second is doubled", order.knows(1, 2), 1);
        Check.due("the third came", order.knows(2, 2), 1);
        Check.due("three DONE", order.shopAt(0, 5), 3);
    }

    // ---- the switch

    private static void whileOpen() {
        Bound.term(4, 15, "The SWITCH hands what comes up to the issuer at once, if the issuer is open, and what the issuer "
                + "answers goes down at once.");
        Chipcardhouse house = paidHouse();
        house.setOpen(false);
        house.sends(0);
        house.pay(0, 0, 501, 7);
        house.setOpen(true);
        house.passes(1);
        Check.due("open again as it comes: POSTED", house.knows(0, 2), 1);
        Check.due("answered by the issuer", house.knows(1, 0), 1);
        Check.due("both answers go down at this tick", house.shopAt(0, 5), 2);
        Check.due("no note", house.count(8), 0);
        house.setOpen(false);
        house.passes(1);
        Check.due("what is on the line down comes, though it is closed", house.paymentAt(1, 8), 1);
    }

    private static void whileClosed() {
        standInAmount();
        threeOfACard();
        sinceItClosed();
        noteOnce();
        notAnswered();
        hearsAllNotes();
    }

    private static void standInAmount() {
        Bound.term(4, 15, "DENIED with reason 8, if the amount is above the house's stand-in amount (0 to 20000; 1000 at "
                + "first)");
        for (int standIn : new int[] {0, 1, 1000, 20000}) {
            Chipcardhouse house = new Chipcardhouse();
            house.account(5);
            house.shop(0, 0);
            house.card(0, 7, 0, 0);
            house.setHouse(standIn, 100, 1);
            house.setOpen(false);
            house.pay(0, 0, standIn + 1, 7);
            house.pay(0, 0, Math.max(1, standIn), 7);
            house.passes(2);
            Check.due("above " + standIn, house.paymentAt(0, 7), 8);
            Check.due("its state", house.paymentAt(0, 0), 3);
            Check.due("not above " + standIn, house.paymentAt(1, 0), standIn == 0 ? 3 : 2);
            Check.due("notes", house.count(8), standIn == 0 ? 0 : 1);
        }
        Chipcardhouse later = Check.house();
        later.setOpen(false);
        later.pay(0, 0, 800, 7);
        later.setHouse(799, 100, 1);
        later.passes(2);
        Check.due("the stand-in amount counts as it comes", later.paymentAt(0, 7), 8);
    }

    private static void threeOfACard() {
        Bound.term(4, 15, "or the switch has granted 3 payments of this card");
        Chipcardhouse house = Check.house();
        house.card(0, 7, 9, 5000);
        house.setOpen(false);
        house.pay(0, 0, 1001, 7);
        for (int i = 1; i <= 4; i++) {
            house.pay(0, 0, 600 + i, 7);
        }
        house.pay(1, 0, 600, 7);
        house.passes(1);
        Check.due("three notes of card 0 and one of card 1", house.count(8), 4);
        house.passes(1);
        int[] states = {3, 2, 2, 2, 3, 2};
        for (int i = 0; i < 6; i++) {
            Check.due("the state of " + i, house.paymentAt(i, 0), states[i]);
        }
        Check.due("what is denied is not one of the three", house.paymentAt(3, 8), 2);
        Check.due("a fourth", house.paymentAt(4, 7), 8);
        house.passes(50);
        house.pay(0, 0, 501, 7);
        house.passes(2);
        Check.due("a fourth a long time later", house.paymentAt(6, 7), 8);
    }

    private static void sinceItClosed() {
        Bound.term(4, 15, "since the issuer closed");
        Chipcardhouse house = Check.house();
        house.setOpen(false);
        for (int i = 0; i < 3; i++) {
            house.pay(0, 0, 600, 7);
        }
        house.passes(2);
        Check.due("three notes are heard", house.setOpen(true), 3);
        house.setOpen(false);
        for (int i = 0; i < 4; i++) {
            house.pay(0, 0, 700, 7);
        }
        house.passes(2);
        Check.due("three again", house.paymentAt(5, 0), 2);
        Check.due("and not four", house.paymentAt(6, 7), 8);
    }

    private static void noteOnce() {
        Bound.term(4, 15, "otherwise GRANTED by the switch, and it keeps a note of it (once for a payment: a doubled ASK gets "
                + "the same answer and no other note)");
        Chipcardhouse house = Check.house();
        house.setOpen(false);
        house.faults(0, UP, DOUBLED, 4);
        for (int i = 0; i < 3; i++) {
            house.pay(0, 0, 600, 7);
        }
        house.pay(0, 0, 1001, 7);
        house.pay(0, 0, 600, 7);
        house.faults(0, DOWN, LOST, 1);
        house.passes(1);
        Check.due("three notes of six", house.count(8), 3);
        Check.due("nine answers, one of them lost", house.shopAt(0, 5), 8);
        house.passes(1);
        int[] states = {2, 2, 2, 3, 3};
        for (int i = 0; i < 5; i++) {
            Check.due("the state of " + i, house.paymentAt(i, 0), states[i]);
        }
        Check.due("the issuer hears three", house.setOpen(true), 3);
        Check.due("three are held", house.accountAt(0, 1), 1800);
    }

    private static void notAnswered() {
        Bound.term(4, 15, "TAKE BACK, RECORD and BACK MONEY are not answered.");
        Chipcardhouse house = paidHouse();
        house.setOpen(false);
        house.faults(0, UP, LOST, 1);
        house.pay(0, 0, 501, 7);
        house.sends(0);
        house.backMoney(0, 0, 5);
        house.passes(1);
        Check.due("they came", house.shopAt(0, 4), 0);
        Check.due("nothing goes down", house.shopAt(0, 5), 0);
        house.passes(8);
        Check.due("the TAKE BACK came", house.shopAt(0, 4), 0);
        Check.due("nothing goes down", house.shopAt(0, 5), 0);
        Check.due("three are kept", house.shopAt(0, 3), 3);
        Check.due("opening hears no note", house.setOpen(true), 0);
        Check.due("nothing was POSTED", house.count(6), 0);
        Check.due("nothing was TAKEN BACK", house.knows(1, 3), 0);
        house.passes(20);
        Check.due("sent again they are done", house.shopAt(0, 3), 0);
        Check.due("POSTED, and 5 went back", house.knows(0, 6), 95);
    }

    private static void hearsAllNotes() {
        Bound.term(4, 15, "When the issuer opens, it hears all notes first, in their order.");
        Chipcardhouse house = Check.house();
        house.card(0, 7, 9, 5000);
        house.setOpen(false);
        for (int i = 0; i < 6; i++) {
            house.pay(i % 2, 0, 600 + i, 7);
        }
        house.passes(2);
        Check.due("six are sent", house.sends(0), 6);
        Check.due("six are kept by the switch", house.count(8), 6);
        Check.due("six are heard", house.setOpen(true), 6);
        Check.due("none is kept", house.count(8), 0);
        Check.due("all are held", house.accountAt(0, 1), 3615);
        house.passes(1);
        Check.due("the RECORDS come behind them", house.count(6), 6);
        Check.due("none is REJECTED", house.count(7), 0);
        Check.due("nothing is heard again", house.setOpen(true), 0);
    }

    // ---- promises 13 to 15

    private static void promisesOfPasses() {
        Bound.promise(13, "`ticks`: 1 to 200");
        Bound.rangeOfArgument(1, 200, Check::house, Chipcardhouse::passes);
        Bound.promise(13, "Lets ticks pass.");
        Chipcardhouse house = Check.house();
        house.pay(0, 0, 501, 7);
        house.passes(2);
        Check.due("two ticks are as one and one", house.paymentAt(0, 0), 2);
        Bound.promise(13, "Returns the number of the tick then.");
        Check.due("one", house.passes(1), 3);
        Check.due("200", house.passes(200), 203);
        Check.bad("0", house, () -> house.passes(0));
        Check.due("one", house.passes(1), 204);
        Bound.promise(13, "Throws `IllegalArgumentException` if ticks is out of range");
        Check.bad("201", house, () -> house.passes(201));
        Bound.promise(13, "Throws `IllegalStateException` if that would be above 3000");
        for (int i = 0; i < 13; i++) {
            house.passes(200);
        }
        Check.due("2804", house.count(0), 2804);
        Check.late("3004", house, () -> house.passes(200));
        Check.late("3001", house, () -> house.passes(197));
        Check.bad("201 to 3005", house, () -> house.passes(201));
        Check.bad("0", house, () -> house.passes(0));
        Check.due("3000", house.passes(196), 3000);
        Check.late("3001", house, () -> house.passes(1));
        Check.bad("the greatest int", house, () -> house.passes(Integer.MAX_VALUE));
        house.pay(0, 0, 501, 7);
        Check.due("what is put at the last tick stays on the line", house.shopAt(0, 4), 1);
    }

    private static void promisesOfFaults() {
        Bound.promise(14, "`shop`: a shop");
        Bound.exist(4, BoundsOfLines::wideHouse, (house, n) -> house.faults(n, 0, 0, 1));
        Bound.promise(14, "`line`: 0 for up, 1 for down");
        Bound.rangeOfArgument(0, 1, Check::house, (house, n) -> house.faults(0, n, 0, 1));
        Bound.promise(14, "`how`: 0 lost, 1 doubled, 2 late");
        Bound.rangeOfArgument(0, 2, Check::house, (house, n) -> house.faults(0, 0, n, 1));
        int[] onLine = {0, 2, 1};
        for (int how = 0; how <= 2; how++) {
            Chipcardhouse house = paidHouse();
            house.faults(0, UP, how, 1);
            house.faults(0, DOWN, how, 1);
            house.sends(0);
            Check.due("on the line up: " + how, house.shopAt(0, 4), onLine[how]);
            house.passes(1);
            Check.due("is left on it behind a tick: " + how, house.shopAt(0, 4), how == LATE ? 1 : 0);
        }
        Bound.promise(14, "`many`: 0 to 100");
        Bound.rangeOfArgument(0, 100, Check::house, (house, n) -> house.faults(0, 0, 0, n));
        Chipcardhouse none = paidHouse();
        none.faults(0, UP, LOST, 0);
        none.sends(0);
        Check.due("none is lost", none.shopAt(0, 4), 1);
        Bound.promise(14, "Tells that the next messages on a line are lost, doubled or late, in addition to those that were "
                + "told before.");
        Chipcardhouse hundred = paidHouse();
        Check.due("100", hundred.faults(0, UP, LOST, 100), 100);
        Check.due("and one", hundred.faults(0, UP, LOST, 1), 101);
        for (int i = 1; i <= 102; i++) {
            hundred.forge(0, 0, 9);
            Check.due("on the line behind " + i, hundred.shopAt(0, 4), i <= 101 ? 0 : 1);
        }
        Bound.promise(14, "Returns how many are to be so then.");
        Check.due("none", hundred.faults(0, UP, LOST, 0), 0);
        Check.due("others", hundred.faults(0, UP, LATE, 100), 100);
        Check.due("down", hundred.faults(0, DOWN, LATE, 3), 3);
        hundred.forge(0, 0, 9);
        Check.due("one less", hundred.faults(0, UP, LATE, 0), 99);
        Bound.promise(14, "Throws `IndexOutOfBoundsException` if there is no such shop");
        Bound.noneExists(Chipcardhouse::new, (house, n) -> house.faults(n, 0, 0, 1));
        Check.none("and all is wrong", hundred, () -> hundred.faults(1, 2, 3, 101));
        Bound.promise(14, "Throws `IllegalArgumentException` if line, how or many is out of range");
        Check.bad("line alone", hundred, () -> hundred.faults(0, 2, 2, 100));
        Check.bad("how alone", hundred, () -> hundred.faults(0, 1, 3, 100));
        Check.bad("many alone", hundred, () -> hundred.faults(0, 1, 2, 101));
    }

    private static void promisesOfSetOpen() {
        Bound.promise(15, "Opens or closes the issuer.");
        Chipcardhouse house = Check.house();
        house.setOpen(false);
        Check.due("closed", house.count(9), 0);
        house.setOpen(false);
        Check.due("closed still", house.count(9), 0);
        house.setOpen(true);
        Check.due("open", house.count(9), 1);
        Bound.promise(15, "`isOpen`: whether it is open then");
        house.setOpen(true);
        Check.due("open still", house.count(9), 1);
        Bound.promise(15, "Returns how many notes it hears by that.");
        Check.due("open already", house.setOpen(true), 0);
        Check.due("closing", house.setOpen(false), 0);
        Check.due("opening without notes", house.setOpen(true), 0);
        house.setOpen(false);
        house.pay(0, 0, 600, 7);
        house.passes(1);
        Check.due("closing again hears none", house.setOpen(false), 0);
        Check.due("the note is kept", house.count(8), 1);
        Check.due("one", house.setOpen(true), 1);
        Check.due("none more", house.setOpen(true), 0);
    }
}
