/** Promises 1 to 4: a new object, and texts. */
public final class TextsTest {
    public static void main(String[] args) {
        newObject();
        type();
        fault();
        faultsOfEachCommand();
        play();
        playDoesEachCommand();
        playLeavesOut();
        Check.finish("TextsTest");
    }

    private static void newObject() {
        Chipcardhouse house = new Chipcardhouse();
        for (int what = 0; what <= 8; what++) {
            Check.due("a new house: count " + what, house.count(what), 0);
        }
        Check.due("a new house is open", house.count(9), 1);
        Check.due("a new house: fees", house.fees(), 0);
        Check.due("a new house: checksum", house.checksum(), 0);
        Check.due("a new house: errors", house.errors(), 0);
        Check.due("a new house: text", house.type(0), 0);
        Check.due("the fee at first", house.setHouse(0, 0, 1), 100);
        Check.none("no account", house, () -> house.accountAt(0, 0));
        Check.none("no shop", house, () -> house.shopAt(0, 0));
        Check.none("no card", house, () -> house.cardAt(0, 0));
        // the stand-in amount of 1000 and the delay 1
        Chipcardhouse closed = Check.house();
        closed.setOpen(false);
        closed.pay(0, 0, 1000, 7);
        closed.pay(0, 0, 1001, 7);
        closed.passes(1);
        Check.due("both came behind 1 tick", closed.shopAt(0, 4), 0);
        closed.passes(1);
        Check.due("1000 is granted at first", closed.paymentAt(0, 0), 2);
        Check.due("1001 is denied at first", closed.paymentAt(1, 0), 3);
        Check.due("of two houses, one changes alone", new Chipcardhouse().count(5), 0);
    }

    private static void type() {
        Chipcardhouse house = new Chipcardhouse();
        Check.due("nothing", house.type(0L), 0);
        Check.due("8 signs", house.type(0x6461793b6461793bL), 8); // day;day;
        Check.due("zeros between", house.type(0x6400610079003b00L), 12); // day;
        Check.due("a text of three days", house.play(), 3);
        Check.due("three days", house.count(1), 3);
        Check.due("the least and the greatest sign", house.type(0x207eL), 2);
        Check.bad("31", house, () -> house.type(31L));
        Check.bad("127", house, () -> house.type(127L));
        Check.bad("128 in front", house, () -> house.type(0x8000000000000020L));
        Check.bad("255", house, () -> house.type(-1L));
        Check.bad("one bad among good ones", house, () -> house.type(0x6161610a61616161L));
        for (int i = 0; i < 74; i++) {
            house.type(0x2020202020202020L);
        }
        Check.due("594", house.type(0L), 594);
        Check.late("602 signs", house, () -> house.type(0x2020202020202020L));
        Check.late("601 signs", house, () -> house.type(0x20202020202020L));
        Check.bad("a bad sign and too long", house, () -> house.type(0x2020202020202001L));
        Check.due("600 signs", house.type(0x202020202020L), 600);
        Check.late("one more", house, () -> house.type(32L));
        Check.due("none more", house.type(0L), 600);
    }

    private static void faultIs(String text, int place) {
        Chipcardhouse house = new Chipcardhouse();
        Check.type(house, text);
        Check.due("fault of '" + text + "'", house.fault(), place);
        Check.due("the text stays", house.type(0), text.length());
        if (place != Chipcardhouse.NONE) {
            try {
                house.play();
                Check.due("'" + text + "' is played", true, false);
            } catch (IllegalArgumentException e) {
                Check.due("the text is emptied", house.type(0), 0);
            }
        }
    }

    private static void fault() {
        faultIs("", -1);
        faultIs("   ", -1);
        faultIs("day;", -1);
        faultIs(" day ; day;", -1);
        faultIs("account5;", -1);
        faultIs("pay0 0 5touch;", -1);
        faultIs("pay 0 0 5 touch;pay 1 2 3 4;", -1);
        faultIs("account 0000005;", -1);
        faultIs("account 00000005;", 8);
        faultIs("account 12345678", 8);
        faultIs("12345678;", 0);
        faultIs("day", 3);
        faultIs("day  ", 5);
        faultIs("account", 7);
        faultIs("account ", 8);
        faultIs("account 5", 9);
        faultIs("pay 0 0 5", 9);
        faultIs("pay 0 0 5 t", 10);
        faultIs("pay 0 0 5 touchy;", 10);
        faultIs("pay 0 0 touch;", 8);
        faultIs("shop 1 touch;", 7);
        faultIs("da", 0);
        faultIs("days;", 0);
        faultIs("dayday;", 0);
        faultIs("day;;", 4);
        faultIs("day day;", 4);
        faultIs("day 1;", 4);
        faultIs("Day;", 0);
        faultIs("day;,", 4);
        faultIs("day,", 3);
        faultIs("account -5;", 8);
        faultIs("account 5 5;", 10);
        faultIs("shop 5;", 6);
        faultIs("touch;", 0);
        faultIs(";", 0);
        faultIs("7;", 0);
        faultIs("pay 0 0 5 ;", 10);
        faultIs("pay 0 0 5 touch 5;", 16);
        faultIs("freeze 0 1;", 9);
    }

    private static void faultsOfEachCommand() {
        String[] commands = {"account 1", "shop 2", "card 4", "pay 4", "send 1", "back 3", "wait 1", "fault 4",
            "open 0", "close 0", "house 3", "tell 2", "stolen 1", "freeze 1", "day 0", "dispute 1"};
        for (String command : commands) {
            String word = command.split(" ")[0];
            int numbers = Integer.parseInt(command.split(" ")[1]);
            String text = word + " 1".repeat(numbers);
            faultIs(text + ";", -1);
            faultIs(text, text.length());
            faultIs(text + " 1;", text.length() + 1);
            if (numbers > 0) {
                faultIs(text.substring(0, text.length() - 1) + ";", text.length() - 1);
            }
        }
    }

    private static void play() {
        Chipcardhouse house = new Chipcardhouse();
        Check.due("the empty text", house.play(), 0);
        Check.type(house, "account 500;shop 100 0;card 0 7 9 5000;pay 0 0 60 7;pay 0 0 40 touch;send 0;wait 2;");
        Check.due("seven commands", house.play(), 7);
        Check.due("the text is empty then", house.type(0), 0);
        Check.due("the balance", house.accountAt(0, 0), 400);
        Check.due("touched once", house.cardAt(0, 2), 1);
        Check.type(house, "day;day");
        try {
            house.play();
            Check.due("a text with a fault is played", true, false);
        } catch (IllegalArgumentException e) {
            Check.due("nothing of it is done", house.count(1), 0);
        }
        Check.due("it is emptied", house.type(0), 0);
        Check.due("then it has no fault", house.fault(), -1);
    }

    private static void playDoesEachCommand() {
        Chipcardhouse house = Check.house();
        Check.type(house, "house 900 250 2;tell 0 1;tell 0 3;stolen 0;freeze 0;close;fault 0 1 2 5;pay 0 0 9 touch;");
        Check.due("eight commands", house.play(), 8);
        Check.due("two things and one wait", house.tells(0, 2), 3);
        Check.due("stolen", house.stolen(0), true);
        Check.due("frozen", house.freeze(0, false), true);
        Check.due("closed", house.count(9), 0);
        Check.due("five messages down are late", house.faults(0, 1, 2, 0), 5);
        Check.type(house, "open;send 0;back 0 0 4;wait 12;day;dispute 0;");
        Check.due("six commands", house.play(), 6);
        Check.due("open", house.count(9), 1);
        Check.due("the delay is 2 (and down 4 more)", house.count(6), 1);
        Check.due("a day", house.count(1), 1);
        Check.due("all is back", house.accountAt(0, 0), 10000);
        Check.due("5 had come to the shop less a fee of 2.5 %", house.shopAt(0, 0), 5);
        Check.due("what is disputed is taken from what stands in between", house.shopAt(0, 1), -5);
        Check.due("the fee before", house.setHouse(900, 0, 2), 250);
        Check.type(house, "fault 0 0 1 3;fault 0 1 0 4;house 650 0 1;close;pay 0 0 650 7;pay 0 0 651 7;wait 2;");
        Check.due("seven commands", house.play(), 7);
        Check.due("one is left to be doubled up", house.faults(0, 0, 1, 0), 1);
        Check.due("four answers were lost", house.faults(0, 1, 0, 0), 0);
        Check.due("650 is the stand-in amount", house.count(8), 1);
        twoOfEach();
    }

    /** The numbers of a command go where they belong. */
    private static void twoOfEach() {
        Chipcardhouse house = Check.house();
        Check.type(house, "account 77;shop 0 1;card 1 9 8 6;pay 1 1 5 9;pay 0 0 30 touch;pay 0 0 20 7;send 0;"
                + "back 0 2 4;wait 2;dispute 1;tell 1 2;stolen 1;freeze 1;");
        Check.due("thirteen commands", house.play(), 13);
        Check.due("the account", house.accountAt(1, 0), 77);
        Check.due("the payment's card", house.paymentAt(0, 1), 1);
        Check.due("its shop", house.paymentAt(0, 2), 1);
        Check.due("its amount", house.paymentAt(0, 3), 5);
        Check.due("it is granted", house.paymentAt(0, 0), 2);
        Check.due("the other shop's are posted", house.count(6), 2);
        Check.due("4 went back", house.knows(2, 6), 16);
        Check.due("30 are disputed", house.knows(1, 6), 0);
        Check.due("card 1 is told", house.tells(1, 2), 1);
        Check.due("card 1 is stolen", house.stolen(1), true);
        Check.due("card 0 is not", house.stolen(0), false);
        Check.due("account 1 is frozen", house.freeze(1, true), true);
        Check.due("the greatest count", house.cardAt(1, 6), 8);
        house.pay(1, 1, 6, 9);
        house.pay(1, 0, 6, 9);
        house.pay(1, 0, 1, 9);
        Check.due("the pick of shop 1", house.paymentAt(3, 0), 1);
        Check.due("shop 0 has none", house.paymentAt(4, 0), 0);
        Check.due("the greatest sum", house.paymentAt(5, 0), 1);
    }

    private static void playLeavesOut() {
        Chipcardhouse house = Check.house();
        Check.type(house, "account 9000001;shop 50001 0;shop 0 10;card 1 0 0 0;card 0 10000 0 0;pay 1 0 1 1;"
                + "pay 0 1 1 1;pay 0 0 0 1;pay 0 0 100001 1;pay 0 0 1 10000;send 1;back 0 0 1;wait 0;wait 201;");
        Check.due("all are left out", house.play(), 0);
        Check.type(house, "fault 1 0 0 0;fault 0 2 0 0;fault 0 0 3 0;fault 0 0 0 101;house 20001 0 1;house 0 501 1;"
                + "house 0 0 6;tell 1 1;tell 0 4;tell 0 0;stolen 1;freeze 1;dispute 0;");
        Check.due("these too", house.play(), 0);
        Check.type(house, "pay 0 0 1 8;pay 0 0 1 7;dispute 0;day;pay 0 0 3000 touch;");
        Check.due("what is REFUSED counts, a dispute that is refused does not", house.play(), 4);
        Check.due("a payment", house.count(5), 1);
        Check.due("a day", house.count(1), 1);
    }
}
