/** A first way through: a payment that the card grants, its record, its day. */
public final class PaymentsTest {
    public static void main(String[] args) {
        Chipcardhouse house = new Chipcardhouse();
        house.account(1000);
        house.shop(500, 0);
        house.card(0, 1234, 3, 2000);
        boolean fine = house.pay(0, 0, 100, 1234) == 0 && house.sends(0) == 1 && house.passes(2) == 2
                && house.endDay() == 1 && house.fees() == 1 && house.shopAt(0, 0) == 99 && house.errors() == 0;
        if (!fine) {
            System.out.println("a payment did not reach its shop");
            System.exit(1);
        }
    }
}
