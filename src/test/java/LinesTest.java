/** Promises 13 to 15: time, lines and their faults, the switch while the issuer is closed. */
public final class LinesTest {
    public static void main(String[] args) {
        passes();
        faultsWrong();
        lost();
        doubled();
        late();
        orderOfFaults();
        faultsOfTheLineDown();
        repeating();
        orderOfRepeating();
        doneIsHeardOfTheSameAlone();
        setOpen();
        standIn();
        closedAnswersNothing();
        notes();
        notesOfManyShops();
        noteOfTakenBack();
        Check.finish("LinesTest");
    }

    private static void passes() {
        Chipcardhouse house = new Chipcardhouse();
        Check.bad("0", house, () -> house.passes(0));
        Check.bad("-1", house, () -> house.passes(-1));
        Check.bad("201", house, () -> house.passes(201));
        Check.due("one", house.passes(1), 1);
        for (int i = 0; i < 14; i++) {
            Check.due("200 more", house.passes(200), 201 + 200 * i);
        }
        Check.late("200 to 3001", house, () -> house.passes(200));
        Check.bad("201 to 3002", house, () -> house.passes(201));
        Check.due("the last ones", house.passes(199), 3000);
        Check.late("one more", house, () -> house.passes(1));
        Check.due("the tick", house.count(0), 3000);
    }

    private static void faultsWrong() {
        Chipcardhouse house = Check.house();
        Check.none("shop -1", house, () -> house.faults(-1, 0, 0, 0));
        Check.none("shop 1", house, () -> house.faults(1, 2, 0, 0));
        Check.bad("line -1", house, () -> house.faults(0, -1, 0, 0));
        Check.bad("line 2", house, () -> house.faults(0, 2, 0, 0));
        Check.bad("how -1", house, () -> house.faults(0, 0, -1, 0));
        Check.bad("how 3", house, () -> house.faults(0, 0, 3, 0));
        Check.bad("many -1", house, () -> house.faults(0, 0, 0, -1));
        Check.bad("many 101", house, () -> house.faults(0, 0, 0, 101));
        for (int line = 0; line < 2; line++) {
            for (int how = 0; how < 3; how++) {
                Check.due("none", house.faults(0, line, how, 0), 0);
                Check.due("100", house.faults(0, line, how, 100), 100);
                Check.due("in addition", house.faults(0, line, how, how), 100 + how);
            }
        }
    }

    private static void lost() {
        Chipcardhouse house = Check.house();
        house.faults(0, 0, 0, 1);
        house.pay(0, 0, 501, 7);
        Check.due("it is not on the line", house.shopAt(0, 4), 0);
        Check.due("none is left", house.faults(0, 0, 0, 0), 0);
        house.pay(0, 0, 502, 7);
        Check.due("the next is", house.shopAt(0, 4), 1);
        house.passes(2);
        Check.due("the lost one asks", house.paymentAt(0, 0), 1);
        Check.due("the next is granted", house.paymentAt(1, 0), 2);
    }

    private static void doubled() {
        Chipcardhouse house = Check.house();
        house.faults(0, 0, 1, 1);
        house.tells(0, 1);
        house.pay(0, 0, 501, 7);
        Check.due("two alike", house.shopAt(0, 4), 2);
        Check.due("none is left", house.faults(0, 0, 1, 0), 0);
        house.pay(0, 0, 8, 8);
        house.faults(0, 1, 0, 1);
        house.passes(1);
        Check.due("the first answer is lost, the second is on the line", house.shopAt(0, 5), 1);
        Check.due("held once", house.accountAt(0, 1), 501);
        Check.due("heard once", house.cardAt(0, 8), 1);
        house.passes(1);
        Check.due("granted by the second", house.paymentAt(0, 0), 2);
        Check.due("it tells what the first told", house.cardAt(0, 1), 3);
        house.faults(0, 0, 1, 1);
        house.sends(0);
        house.passes(1);
        Check.due("posted once", house.accountAt(0, 0), 9499);
        Check.due("two are done", house.shopAt(0, 5), 2);
        house.faults(0, 0, 1, 1);
        house.backMoney(0, 0, 100);
        house.passes(1);
        Check.due("back once", house.accountAt(0, 0), 9599);
        Check.due("no error", house.errors(), 0);
    }

    private static void late() {
        Chipcardhouse house = Check.house();
        house.setHouse(1000, 100, 2);
        house.faults(0, 0, 2, 1);
        house.pay(0, 0, 501, 7);
        house.pay(0, 0, 502, 7);
        house.passes(2);
        Check.due("the second came", house.knows(1, 0), 1);
        Check.due("the first did not", house.knows(0, 0), 0);
        house.passes(3);
        Check.due("not at the tick 5", house.knows(0, 0), 0);
        house.passes(1);
        Check.due("at the tick 6", house.knows(0, 0), 1);
        Check.due("the line is empty", house.shopAt(0, 4), 0);
    }

    private static void orderOfFaults() {
        Chipcardhouse house = Check.house();
        house.faults(0, 0, 2, 1);
        house.faults(0, 0, 1, 1);
        house.faults(0, 0, 0, 1);
        house.pay(0, 0, 501, 7);
        Check.due("lost first", house.shopAt(0, 4), 0);
        house.pay(0, 0, 502, 7);
        Check.due("then doubled", house.shopAt(0, 4), 2);
        house.pay(0, 0, 503, 7);
        house.pay(0, 0, 504, 7);
        house.passes(1);
        Check.due("then late", house.shopAt(0, 4), 1);
        house.passes(4);
        Check.due("by 4 ticks", house.knows(2, 0), 1);
    }

    private static void faultsOfTheLineDown() {
        Chipcardhouse house = Check.house();
        house.shop(500, 0);
        house.faults(0, 1, 2, 1);
        house.pay(0, 0, 501, 7);
        house.pay(0, 1, 501, 7);
        house.passes(2);
        Check.due("of the other shop it is not late", house.paymentAt(1, 0), 2);
        house.passes(3);
        Check.due("late down", house.paymentAt(0, 0), 1);
        house.passes(1);
        Check.due("it came", house.paymentAt(0, 0), 2);
    }

    private static void repeating() {
        Chipcardhouse house = Check.house();
        house.pay(0, 0, 10, 7);
        house.faults(0, 0, 0, 2);
        house.sends(0);
        house.passes(9);
        Check.due("one is lost", house.faults(0, 0, 0, 0), 1);
        house.passes(1);
        Check.due("it is sent again at the tick 10", house.faults(0, 0, 0, 0), 0);
        house.passes(9);
        Check.due("not at the tick 19", house.shopAt(0, 4), 0);
        house.passes(1);
        Check.due("but at the tick 20", house.shopAt(0, 4), 1);
        house.passes(1);
        Check.due("posted", house.knows(0, 2), 1);
        house.passes(1);
        Check.due("done", house.shopAt(0, 3), 0);
        house.passes(30);
        Check.due("it is not sent any more", house.shopAt(0, 4), 0);
        house.faults(0, 0, 0, 1);
        house.pay(0, 0, 501, 7);
        house.passes(7);
        Check.due("an ask is sent once", house.shopAt(0, 4), 0);
        house.passes(3);
        Check.due("but the take back of it comes", house.knows(1, 3), 1);
        Check.due("the asks never did", house.knows(1, 0), 0);
    }

    private static void orderOfRepeating() {
        // A record and two BACK MONEY, all lost at first: sent again in their order, the record is ahead of them.
        Chipcardhouse house = Check.house();
        house.pay(0, 0, 100, 7);
        house.faults(0, 0, 0, 3);
        house.sends(0);
        house.backMoney(0, 0, 70);
        house.backMoney(0, 0, 60);
        house.passes(11);
        Check.due("70 went back, so that 60 were too much", house.knows(0, 6), 30);
        // Those whose latest time is not 10 ticks ago wait.
        house.faults(0, 0, 0, 1);
        house.backMoney(0, 0, 1);
        house.passes(5);
        house.faults(0, 0, 0, 1);
        house.backMoney(0, 0, 2);
        house.passes(6);
        Check.due("the first of them came", house.knows(0, 6), 29);
        house.passes(5);
        Check.due("the second too", house.knows(0, 6), 27);
        Check.due("no error", house.errors(), 0);
    }

    private static void doneIsHeardOfTheSameAlone() {
        Chipcardhouse house = Check.house();
        house.pay(0, 0, 100, 7);
        house.pay(0, 0, 100, 7);
        house.sends(0);
        house.backMoney(0, 0, 5);
        house.faults(0, 0, 0, 1);
        house.backMoney(0, 0, 6);
        house.passes(2);
        Check.due("the lost one alone is kept", house.shopAt(0, 3), 1);
        house.passes(8);
        Check.due("it is sent again", house.shopAt(0, 4), 1);
        house.passes(2);
        Check.due("and done", house.shopAt(0, 3), 0);
        Check.due("both went back", house.knows(0, 6), 89);
        // a take back and a record of the same payment
        Chipcardhouse both = new Chipcardhouse();
        both.account(1000);
        both.shop(500, 1);
        both.card(0, 7, 9, 5000);
        both.faults(0, 0, 0, 2);
        both.pay(0, 0, 5, 7);
        both.passes(8);
        both.sends(0);
        Check.due("a take back, lost, and a record", both.shopAt(0, 3), 2);
        both.passes(2);
        Check.due("the record is done", both.shopAt(0, 3), 1);
        both.passes(10);
        Check.due("the take back too", both.shopAt(0, 3), 0);
        Check.due("what is posted is not taken back", both.knows(0, 3), 0);
    }

    private static void setOpen() {
        Chipcardhouse house = Check.house();
        Check.due("open already", house.setOpen(true), 0);
        Check.due("closed", house.setOpen(false), 0);
        Check.due("it is", house.count(9), 0);
        Check.due("closed again", house.setOpen(false), 0);
        house.pay(0, 0, 501, 7);
        house.pay(0, 0, 502, 7);
        house.passes(1);
        Check.due("two notes", house.count(8), 2);
        Check.due("closing again leaves them", house.setOpen(false), 0);
        Check.due("two notes still", house.count(8), 2);
        Check.due("it hears two", house.setOpen(true), 2);
        Check.due("the switch keeps none", house.count(8), 0);
        Check.due("it is open", house.count(9), 1);
        Check.due("nothing new", house.setOpen(true), 0);
    }

    private static void standIn() {
        Chipcardhouse house = Check.house();
        house.card(0, 7, 9, 5000);
        house.setOpen(false);
        house.pay(0, 0, 1001, 7);
        for (int i = 1; i <= 4; i++) {
            house.pay(0, 0, 600 + i, 7);
        }
        house.pay(1, 0, 601, 7);
        house.passes(2);
        int[] states = {3, 2, 2, 2, 3, 2};
        int[] reasons = {8, 0, 0, 0, 8, 0};
        for (int i = 0; i < 6; i++) {
            Check.due("the state of " + i, house.paymentAt(i, 0), states[i]);
            Check.due("the reason of " + i, house.paymentAt(i, 7), reasons[i]);
        }
        Check.due("by the switch", house.paymentAt(1, 8), 2);
        house.setOpen(false);
        house.pay(0, 0, 700, 7);
        house.passes(2);
        Check.due("closing again does not begin anew", house.paymentAt(6, 7), 8);
        house.setOpen(true);
        house.setOpen(false);
        house.pay(0, 0, 700, 7);
        house.passes(2);
        Check.due("opening and closing does", house.paymentAt(7, 0), 2);
        house.faults(0, 0, 1, 4);
        for (int i = 0; i < 3; i++) {
            house.pay(0, 0, 700, 7);
        }
        house.pay(0, 0, 1001, 7);
        house.passes(2);
        Check.due("a doubled ask counts once", house.paymentAt(9, 0), 2);
        Check.due("then three are granted", house.paymentAt(10, 7), 8);
        Check.due("three notes", house.count(8), 3);
    }

    private static void closedAnswersNothing() {
        Chipcardhouse house = Check.house();
        house.pay(0, 0, 10, 7);
        house.setOpen(false);
        house.tells(0, 2);
        house.sends(0);
        house.backMoney(0, 0, 5);
        house.pay(0, 0, 501, 7);
        house.passes(3);
        Check.due("no done", house.shopAt(0, 3), 2);
        Check.due("not posted", house.knows(0, 2), 0);
        Check.due("nothing heard", house.knows(1, 0), 0);
        Check.due("the switch tells the card nothing", house.cardAt(0, 5), 0);
        house.setOpen(true);
        house.passes(8);
        Check.due("sent again they come, in their order", house.knows(0, 6), 5);
        Check.due("what is told waits still", house.tells(0, 2), 1);
    }

    private static void notes() {
        Chipcardhouse house = Check.house();
        house.setOpen(false);
        house.faults(0, 0, 1, 1);
        house.pay(0, 0, 600, 7);
        house.passes(2);
        Check.due("one note of two asks", house.count(8), 1);
        Check.due("the issuer knows nothing", house.knows(0, 5), 0);
        Check.due("nothing is held", house.accountAt(0, 1), 0);
        house.stolen(0);
        house.freeze(0, true);
        house.setOpen(true);
        Check.due("it heard of it", house.knows(0, 5), 1);
        Check.due("it did not answer", house.knows(0, 0), 0);
        Check.due("the amount is held", house.knows(0, 1), 600);
        Check.due("the counter is heard", house.cardAt(0, 8), 1);
        house.sends(0);
        house.passes(1);
        Check.due("posted, frozen or not", house.accountAt(0, 0), 9400);
        Check.due("nothing is held", house.accountAt(0, 1), 0);
        // whatever is free
        Chipcardhouse poor = new Chipcardhouse();
        poor.account(100);
        poor.shop(0, 0);
        poor.card(0, 7, 0, 0);
        poor.setOpen(false);
        poor.pay(0, 0, 900, 7);
        poor.passes(2);
        poor.sends(0);
        poor.passes(1);
        Check.due("a record ahead of its note is not heard", poor.count(7), 0);
        poor.setOpen(true);
        Check.due("free is below 0", poor.accountAt(0, 2), -800);
        poor.passes(10);
        Check.due("the balance is below 0", poor.accountAt(0, 0), -800);
        Check.due("no error", poor.errors(), 0);
    }

    private static void notesOfManyShops() {
        Chipcardhouse house = Check.house();
        house.shop(0, 0);
        house.shop(0, 0);
        house.setOpen(false);
        house.pay(0, 2, 5, 7);
        house.pay(0, 1, 6, 7);
        house.pay(0, 0, 700, 7);
        house.pay(0, 2, 8, 7);
        house.passes(2);
        Check.due("shop 0 is the first", house.paymentAt(2, 0), 2);
        Check.due("shop 1 is the second", house.paymentAt(1, 0), 2);
        Check.due("shop 2's first is the third", house.paymentAt(0, 0), 2);
        Check.due("shop 2's second is too much", house.paymentAt(3, 7), 8);
        Check.due("three notes", house.setOpen(true), 3);
        Check.due("all are held", house.accountAt(0, 1), 711);
        for (int shop = 0; shop < 3; shop++) {
            house.sends(shop);
        }
        house.passes(1);
        Check.due("all are posted", house.count(6), 3);
    }

    private static void noteOfTakenBack() {
        Chipcardhouse house = Check.house();
        house.setOpen(false);
        house.faults(0, 1, 0, 1);
        house.pay(0, 0, 600, 7);
        house.passes(8);
        Check.due("the answer was lost", house.paymentAt(0, 0), 4);
        house.setOpen(true);
        Check.due("held by the note", house.accountAt(0, 1), 600);
        house.passes(1);
        Check.due("taken back", house.accountAt(0, 1), 0);
        Check.due("taken back, it says", house.knows(0, 3), 1);
        // of a number that a thief had posted ahead the note holds nothing
        Chipcardhouse ahead = Check.house();
        ahead.pay(0, 0, 100, 7);
        ahead.forge(0, 0, 1);
        ahead.passes(1);
        ahead.setOpen(false);
        ahead.pay(0, 0, 600, 7);
        ahead.passes(2);
        Check.due("granted by the switch", ahead.paymentAt(1, 8), 2);
        Check.due("one note", ahead.setOpen(true), 1);
        Check.due("it is heard", ahead.knows(1, 5), 1);
        Check.due("the counter too", ahead.cardAt(0, 8), 1);
        Check.due("nothing is held of what is POSTED", ahead.accountAt(0, 1), 0);
        Check.due("no error", ahead.errors(), 0);
        // the issuer hears the take back while a note waits, for it opens and closes
        Chipcardhouse other = Check.house();
        other.setHouse(1000, 100, 4);
        other.faults(0, 1, 2, 1);
        other.setOpen(false);
        other.pay(0, 0, 600, 7);
        other.passes(8);
        Check.due("given up", other.paymentAt(0, 0), 4);
        Check.due("a note waits", other.count(8), 1);
        other.setOpen(true);
        other.passes(4);
        Check.due("the answer of the switch is late", other.paymentAt(0, 0), 4);
        Check.due("nothing is held", other.accountAt(0, 1), 0);
        Check.due("no error", other.errors(), 0);
    }
}
