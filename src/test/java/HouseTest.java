/** Promises 5 to 8: accounts, shops, cards and the house's numbers. */
public final class HouseTest {
    public static void main(String[] args) {
        account();
        shop();
        card();
        keys();
        setHouse();
        delayIsForNewMessages();
        Check.finish("HouseTest");
    }

    private static void account() {
        Chipcardhouse house = new Chipcardhouse();
        Check.bad("-1", house, () -> house.account(-1));
        Check.bad("9000001", house, () -> house.account(9000001));
        Check.due("the first", house.account(0), 0);
        Check.due("the second", house.account(9000000), 1);
        Check.due("its balance", house.accountAt(1, 0), 9000000);
        Check.due("nothing is held", house.accountAt(1, 1), 0);
        Check.due("it is not frozen", house.accountAt(1, 3), 0);
        for (int i = 2; i < 8; i++) {
            Check.due("account " + i, house.account(i), i);
        }
        Check.late("a ninth", house, () -> house.account(0));
        Check.bad("a ninth out of range", house, () -> house.account(-1));
        Check.due("eight", house.count(2), 8);
    }

    private static void shop() {
        Chipcardhouse house = new Chipcardhouse();
        Check.bad("floor -1", house, () -> house.shop(-1, 0));
        Check.bad("floor 50001", house, () -> house.shop(50001, 0));
        Check.bad("pick -1", house, () -> house.shop(0, -1));
        Check.bad("pick 10", house, () -> house.shop(0, 10));
        Check.due("the first", house.shop(0, 0), 0);
        Check.due("the greatest", house.shop(50000, 9), 1);
        for (int what = 0; what <= 5; what++) {
            Check.due("a new shop: " + what, house.shopAt(1, what), 0);
        }
        house.shop(1, 1);
        Check.due("the fourth", house.shop(2, 2), 3);
        Check.late("a fifth", house, () -> house.shop(0, 0));
        Check.bad("a fifth out of range", house, () -> house.shop(0, 10));
        Check.due("four", house.count(3), 4);
    }

    private static void card() {
        Chipcardhouse house = new Chipcardhouse();
        Check.none("no account", house, () -> house.card(0, 0, 0, 0));
        house.account(10);
        Check.none("account -1", house, () -> house.card(-1, -1, 0, 0));
        Check.none("account 1", house, () -> house.card(1, -1, 0, 0));
        Check.bad("pin -1", house, () -> house.card(0, -1, 0, 0));
        Check.bad("pin 10000", house, () -> house.card(0, 10000, 0, 0));
        Check.bad("count -1", house, () -> house.card(0, 0, -1, 0));
        Check.bad("count 10", house, () -> house.card(0, 0, 10, 0));
        Check.bad("sum -1", house, () -> house.card(0, 0, 0, -1));
        Check.bad("sum 100001", house, () -> house.card(0, 0, 0, 100001));
        Check.due("the first", house.card(0, 0, 0, 0), 0);
        Check.due("the greatest", house.card(0, 9999, 9, 100000), 1);
        Check.due("its greatest count", house.cardAt(1, 6), 9);
        Check.due("its tries", house.cardAt(1, 1), 3);
        for (int i = 2; i < 8; i++) {
            Check.due("card " + i, house.card(0, 1, 1, 1), i);
        }
        Check.late("a ninth", house, () -> house.card(0, 0, 0, 0));
        Check.bad("a ninth out of range", house, () -> house.card(0, 0, 10, 0));
        Check.none("a ninth of no account", house, () -> house.card(1, 0, 0, 0));
    }

    private static void keys() {
        Chipcardhouse house = new Chipcardhouse();
        house.account(0);
        int[] keys = {4242, 2459, 1218, 519, 362, 747, 1674, 3143};
        for (int i = 0; i < 8; i++) {
            house.card(0, 0, 0, 0);
            Check.due("the key of card " + i, house.cardAt(i, 7), keys[i]);
        }
    }

    private static void setHouse() {
        Chipcardhouse house = Check.house();
        Check.bad("stand-in -1", house, () -> house.setHouse(-1, 0, 1));
        Check.bad("stand-in 20001", house, () -> house.setHouse(20001, 0, 1));
        Check.bad("fee -1", house, () -> house.setHouse(0, -1, 1));
        Check.bad("fee 501", house, () -> house.setHouse(0, 501, 1));
        Check.bad("delay 0", house, () -> house.setHouse(0, 0, 0));
        Check.bad("delay 6", house, () -> house.setHouse(0, 0, 6));
        Check.due("the fee before", house.setHouse(0, 500, 5), 100);
        Check.due("the fee before that", house.setHouse(20000, 0, 1), 500);
        house.setOpen(false);
        house.pay(0, 0, 20000, 7);
        house.pay(0, 0, 20001, 7);
        house.passes(2);
        Check.due("20000 is granted", house.paymentAt(0, 0), 2);
        Check.due("20001 is not", house.paymentAt(1, 7), 8);
    }

    private static void delayIsForNewMessages() {
        Chipcardhouse house = Check.house();
        house.setHouse(1000, 100, 5);
        house.pay(0, 0, 501, 7);
        house.setHouse(1000, 100, 1);
        house.pay(0, 0, 502, 7);
        house.passes(1);
        Check.due("the second came first", house.knows(1, 0), 1);
        Check.due("the first is on its line", house.shopAt(0, 4), 1);
        house.passes(3);
        Check.due("still at the tick 4", house.knows(0, 0), 0);
        house.passes(1);
        Check.due("it came at the tick 5", house.knows(0, 0), 1);
    }
}
