import java.util.Random;
import java.util.function.Supplier;

/** Random runs of calls (always the same ones), each answered by the program and by the model of the document. */
public final class ModelTest {
    private static final int RUNS = 3000;
    private static final int CALLS = 400;
    private static final String[] WORDS = {"account", "shop", "card", "pay", "send", "back", "wait", "fault", "open",
        "close", "house", "tell", "stolen", "freeze", "day", "dispute"};
    private static final int[] NUMBERS = {1, 2, 4, 4, 1, 3, 1, 4, 0, 0, 3, 2, 1, 1, 0, 1};

    private final Random random;
    private final Chipcardhouse house = new Chipcardhouse();
    private final Model model = new Model();
    private final StringBuilder log = new StringBuilder();
    private final int thieves;
    private final int longest;

    private ModelTest(int seed) {
        random = new Random(seed);
        thieves = seed % 3 == 0 ? 0 : seed % 3 == 1 ? 6 : 40;
        longest = seed % 2 == 0 ? 3 : 12;
    }

    public static void main(String[] args) {
        int runs = args.length > 0 ? Integer.parseInt(args[0]) : RUNS;
        for (int seed = 0; seed < runs; seed++) {
            ModelTest test = new ModelTest(seed);
            String fault = test.run();
            if (fault != null) {
                System.out.println("run " + seed + ": " + fault);
                System.out.println(test.log);
                System.exit(1);
            }
        }
    }

    private static String answer(boolean isOfHouse, Supplier<Object> call) {
        try {
            return String.valueOf(call.get());
        } catch (RuntimeException e) {
            boolean isGood = !isOfHouse || Check.isThrownByProgram(e);
            return (isGood ? "throws " : "the machine or the library throws ") + e.getClass().getName();
        }
    }

    private String differs(String name, Supplier<Object> ofHouse, Supplier<Object> ofModel) {
        String got = answer(true, ofHouse);
        String due = answer(false, ofModel);
        log.append(name).append(" = ").append(due).append('\n');
        return got.equals(due) ? null : name + " answered " + got + ", due is " + due;
    }

    private String run() {
        int set = 3 + random.nextInt(8);
        for (int i = 0; i < CALLS; i++) {
            String fault = i < set ? setUp(i) : random.nextInt(4) == 0 ? question() : deed();
            if (fault == null && i % 25 == 24) {
                fault = wholeState();
            }
            if (fault != null) {
                return fault;
            }
        }
        return wholeState();
    }

    private int below(int most) {
        return random.nextInt(most);
    }

    /** Mostly a number that there is, seldom one that there is not. */
    private int some(int many) {
        return below(60) == 0 ? below(2) == 0 ? -1 : many : many == 0 ? 0 : below(many);
    }

    private int amount() {
        int[] amounts = {0, 1, 2500, 2501, 100000, 100001, 1000, 1001};
        return below(20) == 0 ? amounts[below(amounts.length)] : 1 + below(below(5) == 0 ? 30000 : 900);
    }

    private String setUp(int i) {
        if (i == 0 || i == 3 || i > 6) {
            int balance = below(4) == 0 ? below(2000) : below(9000000);
            return differs("account " + balance, () -> house.account(balance), () -> model.account(balance));
        }
        if (i == 1 || i == 4) {
            return addShop();
        }
        return addCard();
    }

    private String addShop() {
        int floor = below(3) == 0 ? 0 : below(2) == 0 ? below(1000) : below(50002);
        int pick = below(2) == 0 ? 0 : below(11);
        return differs("shop " + floor + " " + pick, () -> house.shop(floor, pick), () -> model.shop(floor, pick));
    }

    private String addCard() {
        int account = some(model.accounts.size());
        int pin = below(40) == 0 ? 10000 : below(3);
        int count = below(12) == 0 ? 10 : below(10);
        int sum = below(40) == 0 ? 100001 : below(100001);
        return differs("card " + account + " " + pin + " " + count + " " + sum,
                () -> house.card(account, pin, count, sum), () -> model.card(account, pin, count, sum));
    }

    private int pinFor(int card) {
        boolean isRight = below(8) != 0 && Model.has(model.cards, card);
        return below(2) == 0 ? -1 : isRight ? model.cards.get(card).pin : below(50) == 0 ? 10000 - below(2) * 10002 : below(4);
    }

    private String deed() {
        int card = some(model.cards.size());
        int shop = some(model.shops.size());
        int payment = below(3) == 0 ? some(model.payments.size()) : model.payments.size() - 1 - below(6);
        int kind = below(108);
        if (kind < 34) {
            int amount = amount();
            int pin = pinFor(card);
            return differs("pay " + card + " " + shop + " " + amount + " " + pin,
                    () -> house.pay(card, shop, amount, pin), () -> model.pay(card, shop, amount, pin));
        }
        if (kind < 42) {
            return differs("sends " + shop, () -> house.sends(shop), () -> model.sends(shop));
        }
        if (kind < 62) {
            int ticks = below(60) == 0 ? below(202) : below(longest) + 1;
            return differs("passes " + ticks, () -> house.passes(ticks), () -> model.passes(ticks));
        }
        if (kind < 68) {
            int amount = amount();
            int at = below(8) == 0 || !Model.has(model.payments, payment) ? shop : model.payments.get(payment).shop;
            return differs("backMoney " + at + " " + payment + " " + amount,
                    () -> house.backMoney(at, payment, amount), () -> model.backMoney(at, payment, amount));
        }
        if (kind < 74) {
            return forge(shop, payment);
        }
        if (kind < 82) {
            int line = below(40) == 0 ? 2 : below(2);
            int how = below(40) == 0 ? -1 : below(3);
            int many = below(60) == 0 ? 101 : below(4);
            return differs("faults " + shop + " " + line + " " + how + " " + many,
                    () -> house.faults(shop, line, how, many), () -> model.faults(shop, line, how, many));
        }
        return kind < 102 ? deedOfIssuer(kind, card, payment) : deedOfText();
    }

    private String forge(int shop, int payment) {
        if (below(40) >= thieves) {
            return null;
        }
        int as = below(40) == 0 ? 1000 : below(3) == 0 ? below(1000) : Math.max(0, payment + below(4) - 1);
        return differs("forge " + shop + " " + payment + " " + as, () -> house.forge(shop, payment, as),
                () -> model.forge(shop, payment, as));
    }

    private String deedOfIssuer(int kind, int card, int payment) {
        if (kind < 86) {
            boolean open = below(3) > 0;
            return differs("setOpen " + open, () -> house.setOpen(open), () -> model.setOpen(open));
        }
        if (kind < 88) {
            int what = below(5);
            return differs("tells " + card + " " + what, () -> house.tells(card, what), () -> model.tells(card, what));
        }
        if (kind < 89) {
            return below(4) > 0 ? null : differs("stolen " + card, () -> house.stolen(card), () -> model.stolen(card));
        }
        if (kind < 91) {
            int account = some(model.accounts.size());
            boolean frozen = below(3) == 0;
            return differs("freeze " + account + " " + frozen, () -> house.freeze(account, frozen),
                    () -> model.freeze(account, frozen));
        }
        if (kind < 95) {
            return differs("dispute " + payment, () -> house.dispute(payment), () -> model.dispute(payment));
        }
        if (kind < 97) {
            return differs("endDay", house::endDay, model::endDay);
        }
        if (kind < 99) {
            int standIn = below(20002);
            int fee = below(502);
            int delay = below(20) == 0 ? 6 * below(2) : 1 + below(below(2) == 0 ? 2 : 5);
            return differs("setHouse " + standIn + " " + fee + " " + delay,
                    () -> house.setHouse(standIn, fee, delay), () -> model.setHouse(standIn, fee, delay));
        }
        return kind == 99 ? addShop() : kind == 100 ? addCard() : setUp(0);
    }

    private String deedOfText() {
        StringBuilder text = new StringBuilder();
        int commands = below(6);
        for (int i = 0; i < commands; i++) {
            addCommand(text);
        }
        if (text.length() > 0 && below(3) == 0) {
            String signs = " ;0a~9t";
            text.setCharAt(below(text.length()), signs.charAt(below(signs.length())));
        }
        if (text.length() > 0 && below(6) == 0) {
            text.setLength(below(text.length()));
        }
        for (int from = 0; from < text.length(); from += 8) {
            long signs = 0;
            for (int i = from; i < Math.min(from + 8, text.length()); i++) {
                signs = signs << 8 | text.charAt(i);
            }
            long typed = signs;
            String fault = differs("type " + typed, () -> house.type(typed), () -> model.type(typed));
            if (fault != null) {
                return fault;
            }
        }
        String fault = differs("fault of '" + model.text + "'", house::fault, model::fault);
        return fault != null ? fault : below(4) == 0 ? null : differs("play", house::play, model::play);
    }

    private void addCommand(StringBuilder text) {
        int command = below(WORDS.length);
        text.append(" ".repeat(below(2))).append(WORDS[command]);
        int card = some(model.cards.size());
        for (int i = 0; i < NUMBERS[command]; i++) {
            text.append(i == 0 && below(2) == 0 ? "" : " ".repeat(1 + below(2)));
            if (command == 3 && i == 3) {
                text.append(below(2) == 0 ? "touch" : String.valueOf(Math.max(0, pinFor(card))));
            } else if (command == 3 && i == 0) {
                text.append(Math.max(0, card));
            } else if (below(25) == 0) {
                text.append("00000000".substring(below(3))).append(below(12));
            } else {
                text.append(i == 2 ? below(900) : command == 0 ? below(9000) : below(3));
            }
        }
        text.append(" ".repeat(below(2))).append(';');
    }

    private String question() {
        int what = below(11);
        int payment = some(model.payments.size());
        int small = some(4);
        int number = below(2) == 0 ? payment : below(1002) - 1;
        switch (below(10)) {
            case 0: return differs("cardAt " + small + " " + what, () -> house.cardAt(small, what), () -> model.cardAt(small, what));
            case 1: return differs("paymentAt " + payment + " " + what, () -> house.paymentAt(payment, what), () -> model.paymentAt(payment, what));
            case 2: return differs("knows " + number + " " + what, () -> house.knows(number, what), () -> model.knows(number, what));
            case 3: return differs("accountAt " + small + " " + what, () -> house.accountAt(small, what), () -> model.accountAt(small, what));
            case 4: return differs("shopAt " + small + " " + what, () -> house.shopAt(small, what), () -> model.shopAt(small, what));
            case 5: return differs("count " + what, () -> house.count(what), () -> model.count(what));
            case 6: return differs("meanPayment " + small, () -> house.meanPayment(small), () -> model.meanPayment(small));
            case 7: return differs("grantedShare", house::grantedShare, model::grantedShare);
            case 8: return differs("checksum", house::checksum, model::checksum);
            default: return differs("errors", house::errors, model::errors);
        }
    }

    private String stateOf(boolean ofHouse) {
        StringBuilder all = new StringBuilder();
        for (int what = 0; what <= 9; what++) {
            int w = what;
            for (int i = 0; i < 8; i++) {
                int n = i;
                all.append(answer(ofHouse, ofHouse ? () -> house.cardAt(n, w) : () -> model.cardAt(n, w))).append(" card ").append(n).append(' ').append(w).append('\n');
                all.append(answer(ofHouse, ofHouse ? () -> house.accountAt(n, w) : () -> model.accountAt(n, w))).append(" account ").append(n).append(' ').append(w).append('\n');
                all.append(answer(ofHouse, ofHouse ? () -> house.shopAt(n, w) : () -> model.shopAt(n, w))).append(" shop ").append(n).append(' ').append(w).append('\n');
            }
            for (int i = 0; i < model.payments.size() + 8; i++) {
                int n = i;
                all.append(answer(ofHouse, ofHouse ? () -> house.paymentAt(n, w) : () -> model.paymentAt(n, w))).append(" payment ").append(n).append(' ').append(w).append('\n');
                all.append(answer(ofHouse, ofHouse ? () -> house.knows(n, w) : () -> model.knows(n, w))).append(" knows ").append(n).append(' ').append(w).append('\n');
            }
            all.append(answer(ofHouse, ofHouse ? () -> house.count(w) : () -> model.count(w))).append(" count ").append(w).append('\n');
        }
        all.append(ofHouse ? house.errors() : model.errors()).append(" errors\n");
        all.append(ofHouse ? house.checksum() : model.checksum()).append(" checksum\n");
        all.append(ofHouse ? house.fees() : model.fees()).append(" fees\n");
        return all.toString();
    }

    private String wholeState() {
        String[] got = stateOf(true).split("\n");
        String[] due = stateOf(false).split("\n");
        for (int i = 0; i < due.length; i++) {
            if (!got[i].equals(due[i])) {
                return "the state is " + got[i] + ", due is " + due[i];
            }
        }
        return null;
    }
}
