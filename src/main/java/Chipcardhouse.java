import java.util.ArrayList;

/** Payments by chip cards, from the card to its issuer. The numbered promises are in the project's document. */
public final class Chipcardhouse {
    /** There is none. */
    public static final int NONE = -1;

    private static final int MOST_ACCOUNTS = 8;
    private static final int MOST_SHOPS = 4;
    private static final int MOST_CARDS = 8;
    private static final int MOST_PAYMENTS = 200;
    private static final int MOST_NUMBERS = 1000;
    private static final int MOST_BACKS = 100;
    private static final int MOST_SIGNS = 600;
    private static final int LAST_TICK = 3000;
    private static final int MOST_AMOUNT = 100000;
    private static final int MOST_TOUCHED = 2500;
    private static final int MOST_TOUCHES = 5;
    private static final int MOST_STAND_INS = 3;
    private static final int TRIES = 3;
    private static final int WAITING_TICKS = 8;
    private static final int REPEATING_TICKS = 10;
    private static final int LATE_TICKS = 4;

    // How a call is refused: play() must know it without an exception.
    private static final int FINE = 0;
    private static final int NO_SUCH = 1;
    private static final int OUT_OF_RANGE = 2;
    private static final int NOT_NOW = 3;

    // The states of a payment.
    private static final int PAID = 0;
    private static final int ASKING = 1;
    private static final int GRANTED = 2;
    private static final int DENIED = 3;
    private static final int GIVEN_UP = 4;

    // The sorts of a stamp.
    private static final int STAMP_PAID = 1;
    private static final int STAMP_ASKED = 2;
    private static final int STAMP_ANSWERED = 3;

    // Who granted a payment, or answered an ASK.
    private static final int BY_CARD = 0;
    private static final int BY_ISSUER = 1;
    private static final int BY_SWITCH = 2;

    // What an ANSWER says.
    private static final int NOTHING = 0;
    private static final int YES = 1;
    private static final int NO = 2;

    // The sorts of a message; a DONE is the message that was heard, on its way down.
    private static final int ASK = 1;
    private static final int TAKE_BACK = 2;
    private static final int RECORD = 3;
    private static final int BACK_MONEY = 4;
    private static final int ANSWER = 5;

    // What befalls a message that is put on a line.
    private static final int LOST = 0;
    private static final int DOUBLED = 1;
    private static final int LATE = 2;

    // The commands of a text, and how many numbers each has (the PIN of a payment apart).
    private static final int SAY_ACCOUNT = 0;
    private static final int SAY_SHOP = 1;
    private static final int SAY_CARD = 2;
    private static final int SAY_PAY = 3;
    private static final int SAY_SEND = 4;
    private static final int SAY_BACK = 5;
    private static final int SAY_WAIT = 6;
    private static final int SAY_FAULT = 7;
    private static final int SAY_OPEN = 8;
    private static final int SAY_CLOSE = 9;
    private static final int SAY_HOUSE = 10;
    private static final int SAY_TELL = 11;
    private static final int SAY_STOLEN = 12;
    private static final int SAY_FREEZE = 13;
    private static final int SAY_DAY = 14;
    private static final int SAY_DISPUTE = 15;
    private static final int[] NUMBERS_OF = {1, 2, 4, 3, 1, 3, 1, 4, 0, 0, 3, 2, 1, 1, 0, 1};

    private final Script script = new Script();
    private final Clock clock = new Clock();
    private final ArrayList<Account> accounts = new ArrayList<>();
    private final ArrayList<Terminal> shops = new ArrayList<>();
    private final ArrayList<Card> cards = new ArrayList<>();
    private final ArrayList<Payment> payments = new ArrayList<>();
    private final Issuer issuer = new Issuer(cards, clock);
    private final Switch exchange = new Switch();
    private int fee = 100;
    private long feeMoney = 0;
    private long moneyPutIn = 0;
    private boolean thiefCopied = false;

    public Chipcardhouse() {
    }

    // ---- texts

    public int type(long signs) throws IllegalArgumentException, IllegalStateException {
        int more = 0;
        for (int shift = 56; shift >= 0; shift -= 8) {
            int sign = (int) ((signs >>> shift) & 255);
            if (sign != 0 && !isWithin(sign, 32, 126)) {
                throw new IllegalArgumentException();
            }
            more += sign == 0 ? 0 : 1;
        }
        if (script.signs.length() + more > MOST_SIGNS) {
            throw new IllegalStateException();
        }
        for (int shift = 56; shift >= 0; shift -= 8) {
            int sign = (int) ((signs >>> shift) & 255);
            if (sign != 0) {
                script.signs.append((char) sign);
            }
        }
        return script.signs.length();
    }

    public int fault() {
        return script.firstFault();
    }

    public int play() throws IllegalArgumentException {
        if (script.firstFault() != NONE) {
            script.signs.setLength(0);
            throw new IllegalArgumentException();
        }
        int done = 0;
        script.place = 0;
        for (int commands = 0; commands <= MOST_SIGNS; commands++) {
            if (script.isAtEnd()) {
                break;
            }
            script.readCommand();
            if (refusalOfCommand(script.command, script.numbers) == FINE) {
                carryOut(script.command, script.numbers);
                done++;
            }
        }
        script.signs.setLength(0);
        return done;
    }

    private int refusalOfCommand(int command, int[] n) {
        switch (command) {
            case SAY_ACCOUNT: return refusalOfAccount(n[0]);
            case SAY_SHOP: return refusalOfShop(n[0], n[1]);
            case SAY_CARD: return refusalOfCard(n[0], n[1], n[2], n[3]);
            case SAY_PAY: return refusalOfPay(n[0], n[1], n[2], n[3]);
            case SAY_SEND: return refusalOfNumber(n[0], shops.size());
            case SAY_BACK: return refusalOfBack(n[0], n[1], n[2]);
            case SAY_WAIT: return refusalOfTicks(n[0]);
            case SAY_FAULT: return refusalOfFaults(n[0], n[1], n[2], n[3]);
            case SAY_HOUSE: return refusalOfHouse(n[0], n[1], n[2]);
            case SAY_TELL: return refusalOfTelling(n[0], n[1]);
            case SAY_STOLEN: return refusalOfNumber(n[0], cards.size());
            case SAY_FREEZE: return refusalOfNumber(n[0], accounts.size());
            case SAY_DISPUTE: return refusalOfDispute(n[0]);
            default: return FINE;
        }
    }

    private void carryOut(int command, int[] n) {
        switch (command) {
            case SAY_ACCOUNT: addAccount(n[0]); break;
            case SAY_SHOP: addShop(n[0], n[1]); break;
            case SAY_CARD: addCard(n[0], n[1], n[2], n[3]); break;
            case SAY_PAY: payAt(n[0], n[1], n[2], n[3]); break;
            case SAY_SEND: sendBatch(n[0]); break;
            case SAY_BACK: sendBack(n[0], n[1], n[2]); break;
            case SAY_WAIT: letTicksPass(n[0]); break;
            case SAY_FAULT: addFaults(n[0], n[1], n[2], n[3]); break;
            case SAY_OPEN: openOrClose(true); break;
            case SAY_CLOSE: openOrClose(false); break;
            case SAY_HOUSE: changeHouse(n[0], n[1], n[2]); break;
            case SAY_TELL: tellCard(n[0], n[1]); break;
            case SAY_STOLEN: reportStolen(n[0]); break;
            case SAY_FREEZE: setFrozen(n[0], true); break;
            case SAY_DAY: settleDay(); break;
            case SAY_DISPUTE: giveDisputedBack(n[0]); break;
            default: break;
        }
    }

    // ---- what there is

    public int account(int balance) throws IllegalArgumentException, IllegalStateException {
        raise(refusalOfAccount(balance));
        return addAccount(balance);
    }

    private int refusalOfAccount(int balance) {
        if (!isWithin(balance, 0, 9000000)) {
            return OUT_OF_RANGE;
        }
        return accounts.size() >= MOST_ACCOUNTS ? NOT_NOW : FINE;
    }

    private int addAccount(int balance) {
        accounts.add(new Account(balance));
        moneyPutIn += balance;
        return accounts.size() - 1;
    }

    public int shop(int floor, int pick) throws IllegalArgumentException, IllegalStateException {
        raise(refusalOfShop(floor, pick));
        return addShop(floor, pick);
    }

    private int refusalOfShop(int floor, int pick) {
        if (!isWithin(floor, 0, 50000) || !isWithin(pick, 0, 9)) {
            return OUT_OF_RANGE;
        }
        return shops.size() >= MOST_SHOPS ? NOT_NOW : FINE;
    }

    private int addShop(int floor, int pick) {
        shops.add(new Terminal(shops.size(), floor, pick, clock));
        return shops.size() - 1;
    }

    public int card(int account, int pin, int count, int sum)
            throws IndexOutOfBoundsException, IllegalArgumentException, IllegalStateException {
        raise(refusalOfCard(account, pin, count, sum));
        return addCard(account, pin, count, sum);
    }

    private int refusalOfCard(int account, int pin, int count, int sum) {
        if (!isWithin(account, 0, accounts.size() - 1)) {
            return NO_SUCH;
        }
        if (!isWithin(pin, 0, 9999) || !isWithin(count, 0, 9) || !isWithin(sum, 0, 100000)) {
            return OUT_OF_RANGE;
        }
        return cards.size() >= MOST_CARDS ? NOT_NOW : FINE;
    }

    private int addCard(int account, int pin, int count, int sum) {
        Card card = new Card(cards.size(), accounts.get(account), pin);
        card.greatestCount = count;
        card.greatestSum = sum;
        cards.add(card);
        return card.number;
    }

    public int setHouse(int standIn, int fee, int delay) throws IllegalArgumentException {
        raise(refusalOfHouse(standIn, fee, delay));
        return changeHouse(standIn, fee, delay);
    }

    private int refusalOfHouse(int standIn, int newFee, int delay) {
        boolean fits = isWithin(standIn, 0, 20000) && isWithin(newFee, 0, 500) && isWithin(delay, 1, 5);
        return fits ? FINE : OUT_OF_RANGE;
    }

    private int changeHouse(int standIn, int newFee, int delay) {
        int before = fee;
        exchange.standIn = standIn;
        fee = newFee;
        clock.delay = delay;
        return before;
    }

    // ---- payments

    public int pay(int card, int shop, int amount, int pin)
            throws IndexOutOfBoundsException, IllegalArgumentException {
        raise(refusalOfPay(card, shop, amount, pin));
        return payAt(card, shop, amount, pin);
    }

    private int refusalOfPay(int card, int shop, int amount, int pin) {
        if (!isWithin(card, 0, cards.size() - 1) || !isWithin(shop, 0, shops.size() - 1)) {
            return NO_SUCH;
        }
        boolean fits = isWithin(amount, 1, MOST_AMOUNT) && isWithin(pin, NONE, 9999);
        return fits ? FINE : OUT_OF_RANGE;
    }

    private int payAt(int cardNumber, int shopNumber, int amount, int pin) {
        Card card = cards.get(cardNumber);
        Terminal shop = shops.get(shopNumber);
        int reason = card.reasonAgainst(amount, pin);
        if (reason == 0 && payments.size() >= MOST_PAYMENTS) {
            reason = 5;
        }
        if (reason != 0) {
            return -reason;
        }
        card.countUp(pin);
        Payment payment = new Payment(payments.size(), card, shop, amount);
        payment.tick = clock.tick;
        payment.isTouched = pin == NONE;
        payments.add(payment);
        boolean mustAsk = shop.mustAsk(amount);
        shop.paymentCount++;
        if (!mustAsk && card.grantAlone(amount)) {
            payment.bePaid();
        } else {
            payment.beAsking();
            shop.sendAsk(payment);
        }
        return payment.number;
    }

    public int sends(int shop) throws IndexOutOfBoundsException {
        raise(refusalOfNumber(shop, shops.size()));
        return sendBatch(shop);
    }

    private int sendBatch(int shopNumber) {
        Terminal shop = shops.get(shopNumber);
        int sent = 0;
        for (int i = 0; i < payments.size(); i++) {
            Payment payment = payments.get(i);
            if (payment.shop == shop && payment.isGood() && !payment.isSent) {
                payment.isSent = true;
                shop.sendAndKeep(payment.record());
                sent++;
            }
        }
        return sent;
    }

    public int backMoney(int shop, int payment, int amount)
            throws IndexOutOfBoundsException, IllegalArgumentException, IllegalStateException {
        raise(refusalOfBack(shop, payment, amount));
        return sendBack(shop, payment, amount);
    }

    private int refusalOfBack(int shop, int payment, int amount) {
        if (!isWithin(shop, 0, shops.size() - 1) || !isWithin(payment, 0, payments.size() - 1)) {
            return NO_SUCH;
        }
        if (payments.get(payment).shop.number != shop || !isWithin(amount, 1, MOST_AMOUNT)) {
            return OUT_OF_RANGE;
        }
        return shops.get(shop).backCount >= MOST_BACKS ? NOT_NOW : FINE;
    }

    private int sendBack(int shopNumber, int payment, int amount) {
        Terminal shop = shops.get(shopNumber);
        Message message = new Message(BACK_MONEY, payment);
        message.amount = amount;
        message.number = shop.backCount;
        shop.backCount++;
        shop.sendAndKeep(message);
        return message.number;
    }

    public int forge(int shop, int payment, int as) throws IndexOutOfBoundsException, IllegalArgumentException {
        raise(refusalOfForging(shop, payment, as));
        Message copied = payments.get(payment).record();
        copied.payment = as;
        copied.by = BY_CARD;
        copied.isForged = true;
        shops.get(shop).up.put(copied);
        thiefCopied = true;
        return copied.stamp;
    }

    private int refusalOfForging(int shop, int payment, int as) {
        if (!isWithin(shop, 0, shops.size() - 1) || !isWithin(payment, 0, payments.size() - 1)) {
            return NO_SUCH;
        }
        return isWithin(as, 0, MOST_NUMBERS - 1) ? FINE : OUT_OF_RANGE;
    }

    // ---- time and lines

    public int passes(int ticks) throws IllegalArgumentException, IllegalStateException {
        raise(refusalOfTicks(ticks));
        return letTicksPass(ticks);
    }

    private int refusalOfTicks(int ticks) {
        if (!isWithin(ticks, 1, 200)) {
            return OUT_OF_RANGE;
        }
        return clock.tick + ticks > LAST_TICK ? NOT_NOW : FINE;
    }

    private int letTicksPass(int ticks) {
        for (int i = 0; i < ticks; i++) {
            clock.tick++;
            for (int s = 0; s < shops.size(); s++) {
                bringUp(shops.get(s));
                shops.get(s).hearWhatComes();
            }
            for (int s = 0; s < shops.size(); s++) {
                shops.get(s).giveUpOldest();
                shops.get(s).repeatKept();
            }
        }
        return clock.tick;
    }

    /** The switch: hands what comes up to the issuer, or stands in for it. */
    private void bringUp(Terminal shop) {
        Line up = shop.up;
        int many = up.count;
        for (int i = 0; i < many; i++) {
            Message message = up.messages.get(i);
            if (message.comes == clock.tick) {
                message.shop = shop.number;
                if (message.sort == ASK) {
                    shop.down.put(exchange.isOpen ? issuer.answerTo(message) : exchange.answerTo(message));
                } else if (exchange.isOpen) {
                    issuer.hear(message, shop);
                    shop.down.put(message);
                }
            }
        }
        up.dropCome();
    }

    public int faults(int shop, int line, int how, int many)
            throws IndexOutOfBoundsException, IllegalArgumentException {
        raise(refusalOfFaults(shop, line, how, many));
        return addFaults(shop, line, how, many);
    }

    private int refusalOfFaults(int shop, int line, int how, int many) {
        if (!isWithin(shop, 0, shops.size() - 1)) {
            return NO_SUCH;
        }
        boolean fits = isWithin(line, 0, 1) && isWithin(how, LOST, LATE) && isWithin(many, 0, 100);
        return fits ? FINE : OUT_OF_RANGE;
    }

    private int addFaults(int shopNumber, int line, int how, int many) {
        Terminal shop = shops.get(shopNumber);
        int[] left = line == 0 ? shop.up.faultsLeft : shop.down.faultsLeft;
        left[how] += many;
        return left[how];
    }

    public int setOpen(boolean isOpen) {
        return openOrClose(isOpen);
    }

    private int openOrClose(boolean isOpen) {
        exchange.isOpen = isOpen;
        if (!isOpen) {
            return 0;
        }
        ArrayList<Message> notes = exchange.notes;
        int heard = notes.size();
        for (int i = 0; i < notes.size(); i++) {
            issuer.hearNote(notes.get(i));
        }
        notes.clear();
        return heard;
    }

    // ---- the issuer

    public int tells(int card, int what) throws IndexOutOfBoundsException, IllegalArgumentException {
        raise(refusalOfTelling(card, what));
        return tellCard(card, what);
    }

    private int refusalOfTelling(int card, int what) {
        if (!isWithin(card, 0, cards.size() - 1)) {
            return NO_SUCH;
        }
        return isWithin(what, 1, 3) ? FINE : OUT_OF_RANGE;
    }

    private int tellCard(int cardNumber, int what) {
        Card card = cards.get(cardNumber);
        card.toTell |= 1 << what;
        return Integer.bitCount(card.toTell);
    }

    public boolean stolen(int card) throws IndexOutOfBoundsException {
        raise(refusalOfNumber(card, cards.size()));
        return reportStolen(card);
    }

    private boolean reportStolen(int cardNumber) {
        Card card = cards.get(cardNumber);
        boolean before = card.isStolen;
        card.isStolen = true;
        return before;
    }

    public boolean freeze(int account, boolean isFrozen) throws IndexOutOfBoundsException {
        raise(refusalOfNumber(account, accounts.size()));
        return setFrozen(account, isFrozen);
    }

    private boolean setFrozen(int accountNumber, boolean isFrozen) {
        Account account = accounts.get(accountNumber);
        boolean before = account.isFrozen;
        account.isFrozen = isFrozen;
        return before;
    }

    public int dispute(int payment) throws IndexOutOfBoundsException, IllegalStateException {
        raise(refusalOfDispute(payment));
        return giveDisputedBack(payment);
    }

    private int refusalOfDispute(int payment) {
        if (!isWithin(payment, 0, payments.size() - 1)) {
            return NO_SUCH;
        }
        Known known = issuer.find(payment);
        boolean fits = payments.get(payment).isTouched && known != null && known.isPosted()
                && !known.isDisputed && clock.day - known.day <= 1;
        return fits ? FINE : NOT_NOW;
    }

    private int giveDisputedBack(int payment) {
        Known known = issuer.find(payment);
        if (known == null) {
            return 0;
        }
        int amount = known.left;
        known.isDisputed = true;
        known.giveBack(amount);
        return amount;
    }

    public int endDay() {
        return settleDay();
    }

    private int settleDay() {
        for (int i = 0; i < shops.size(); i++) {
            Terminal shop = shops.get(i);
            if (shop.between > 0) {
                long kept = shop.between * fee / 10000;
                feeMoney += kept;
                shop.money += shop.between - kept;
                shop.between = 0;
            } else {
                long lacking = Math.min(-shop.between, shop.money);
                shop.money -= lacking;
                shop.between += lacking;
            }
        }
        clock.day++;
        return clock.day;
    }

    // ---- questions

    public int cardAt(int card, int what) throws IndexOutOfBoundsException, IllegalArgumentException {
        raise(refusalOfQuestion(card, cards.size(), what, 8));
        Card asked = cards.get(card);
        switch (what) {
            case 0: return asked.counter;
            case 1: return asked.triesLeft;
            case 2: return asked.touches;
            case 3: return asked.count;
            case 4: return asked.sum;
            case 5: return asked.isDead ? 1 : 0;
            case 6: return asked.greatestCount;
            case 7: return asked.key;
            default: return asked.heardCount;
        }
    }

    public int paymentAt(int payment, int what) throws IndexOutOfBoundsException, IllegalArgumentException {
        raise(refusalOfQuestion(payment, payments.size(), what, 9));
        Payment asked = payments.get(payment);
        switch (what) {
            case 0: return asked.state;
            case 1: return asked.card.number;
            case 2: return asked.shop.number;
            case 3: return asked.amount;
            case 4: return asked.counter;
            case 5: return asked.stamp;
            case 6: return asked.tick;
            case 7: return asked.reason;
            case 8: return asked.grantedBy;
            default: return asked.isSent ? 1 : 0;
        }
    }

    public int knows(int number, int what) throws IndexOutOfBoundsException, IllegalArgumentException {
        raise(refusalOfQuestion(number, MOST_NUMBERS, what, 7));
        Known known = issuer.find(number);
        if (known == null) {
            return what == 7 ? NONE : 0;
        }
        switch (what) {
            case 0: return known.answer == null ? NOTHING : known.answer.what;
            case 1: return known.hold;
            case 2: return known.isPosted() ? 1 : 0;
            case 3: return known.isTakenBack ? 1 : 0;
            case 4: return known.isRejected ? 1 : 0;
            case 5: return known.note == null ? 0 : 1;
            case 6: return known.left;
            default: return known.day;
        }
    }

    public long accountAt(int account, int what) throws IndexOutOfBoundsException, IllegalArgumentException {
        raise(refusalOfQuestion(account, accounts.size(), what, 3));
        Account asked = accounts.get(account);
        switch (what) {
            case 0: return asked.balance;
            case 1: return asked.held;
            case 2: return asked.balance - asked.held;
            default: return asked.isFrozen ? 1 : 0;
        }
    }

    public long shopAt(int shop, int what) throws IndexOutOfBoundsException, IllegalArgumentException {
        raise(refusalOfQuestion(shop, shops.size(), what, 5));
        Terminal asked = shops.get(shop);
        switch (what) {
            case 0: return asked.money;
            case 1: return asked.between;
            case 2: return asked.paymentCount;
            case 3: return asked.kept.size();
            case 4: return asked.up.count;
            default: return asked.down.count;
        }
    }

    public int count(int what) throws IllegalArgumentException {
        raise(isWithin(what, 0, 9) ? FINE : OUT_OF_RANGE);
        switch (what) {
            case 0: return clock.tick;
            case 1: return clock.day;
            case 2: return accounts.size();
            case 3: return shops.size();
            case 4: return cards.size();
            case 5: return payments.size();
            case 6: return issuer.postedCount;
            case 7: return issuer.rejectedCount;
            case 8: return exchange.notes.size();
            default: return exchange.isOpen ? 1 : 0;
        }
    }

    public long fees() {
        return feeMoney;
    }

    public double meanPayment(int shop) throws IndexOutOfBoundsException {
        raise(refusalOfNumber(shop, shops.size()));
        long sum = 0;
        int number = 0;
        for (int i = 0; i < payments.size(); i++) {
            Payment payment = payments.get(i);
            if (payment.shop.number == shop && payment.isGood()) {
                sum += payment.amount;
                number++;
            }
        }
        return number == 0 ? 0.0 : (double) sum / (double) number;
    }

    public float grantedShare() {
        int number = 0;
        for (int i = 0; i < payments.size(); i++) {
            number += payments.get(i).isGood() ? 1 : 0;
        }
        return payments.isEmpty() ? 0.0f : (float) number / (float) payments.size();
    }

    public long checksum() {
        long sum = 0;
        for (int i = 0; i < payments.size(); i++) {
            Payment payment = payments.get(i);
            sum = 31 * sum + payment.state + 7L * payment.amount + 3L * payment.counter;
            sum += issuer.hasPosted(i) ? 1000 : 0;
        }
        return sum;
    }

    public int errors() {
        int wrong = issuer.allStampsAreOfCards(payments) ? 0 : 1;
        wrong += issuer.eachCounterIsPostedOnce() ? 0 : 1;
        wrong += thiefCopied || allPostedAreGood() ? 0 : 1;
        wrong += allHoldsAreSummed() ? 0 : 1;
        wrong += issuer.noSettledHasHold() ? 0 : 1;
        wrong += allMoney() == moneyPutIn ? 0 : 1;
        return wrong;
    }

    private boolean allPostedAreGood() {
        for (int i = 0; i < payments.size(); i++) {
            if (issuer.hasPosted(i) && !payments.get(i).isGood()) {
                return false;
            }
        }
        return true;
    }

    private boolean allHoldsAreSummed() {
        for (int i = 0; i < accounts.size(); i++) {
            if (issuer.sumOfHolds(accounts.get(i)) != accounts.get(i).held) {
                return false;
            }
        }
        return true;
    }

    private long allMoney() {
        long money = feeMoney;
        for (int i = 0; i < accounts.size(); i++) {
            money += accounts.get(i).balance;
        }
        for (int i = 0; i < shops.size(); i++) {
            money += shops.get(i).money + shops.get(i).between;
        }
        return money;
    }

    // ---- what many calls need

    private static boolean isWithin(int number, int least, int most) {
        return number >= least && number <= most;
    }

    private static int refusalOfNumber(int number, int many) {
        return isWithin(number, 0, many - 1) ? FINE : NO_SUCH;
    }

    private static int refusalOfQuestion(int number, int many, int what, int greatestWhat) {
        if (!isWithin(number, 0, many - 1)) {
            return NO_SUCH;
        }
        return isWithin(what, 0, greatestWhat) ? FINE : OUT_OF_RANGE;
    }

    private static void raise(int refusal) {
        if (refusal == NO_SUCH) {
            throw new IndexOutOfBoundsException();
        }
        if (refusal == OUT_OF_RANGE) {
            throw new IllegalArgumentException();
        }
        if (refusal == NOT_NOW) {
            throw new IllegalStateException();
        }
    }

    /** The time, and how long a line takes. */
    private static final class Clock {
        int tick = 0;
        int day = 0;
        int delay = 1;
    }

    private static final class Account {
        long balance;
        long held = 0;
        boolean isFrozen = false;

        Account(int balance) {
            this.balance = balance;
        }
    }

    /** A card: what it knows itself, and behind that what the issuer knows of it. */
    private static final class Card {
        final int number;
        final Account account;
        final int pin;
        final int key;
        int greatestCount;
        int greatestSum;
        int counter = 0;
        int triesLeft = TRIES;
        int touches = 0;
        int count = 0;
        int sum = 0;
        boolean isDead = false;

        boolean isStolen = false;
        int toTell = 0;
        int heardCount = 0;
        // By counter: the number of the payment with it, and 1, so that 0 is none.
        final int[] heardOf = new int[MOST_PAYMENTS + 1];
        final int[] postedAs = new int[MOST_PAYMENTS + 1];

        Card(int number, Account account, int pin) {
            this.number = number;
            this.account = account;
            this.pin = pin;
            this.key = (271 * number * number + 7919 * number + 4242) % 9973;
        }

        int stamp(int counterOfPayment, int amount, int shop, int sort) {
            long x = key;
            x = (x * 37 + counterOfPayment + 11) % 999983;
            x = (x * 37 + amount + 11) % 999983;
            x = (x * 37 + shop + 11) % 999983;
            x = (x * 37 + sort + 11) % 999983;
            return (int) x;
        }

        /** The reason (1 to 4) for which the card refuses, or 0; a wrong PIN costs a try. */
        int reasonAgainst(int amount, int pinGiven) {
            if (isDead) {
                return 1;
            }
            if (pinGiven == NONE) {
                return amount > MOST_TOUCHED || touches >= MOST_TOUCHES ? 4 : 0;
            }
            if (triesLeft <= 0) {
                return 2;
            }
            if (pinGiven != pin) {
                triesLeft--;
                return 3;
            }
            return 0;
        }

        void countUp(int pinGiven) {
            if (pinGiven == NONE) {
                touches++;
            } else {
                triesLeft = TRIES;
                touches = 0;
            }
            counter++;
        }

        boolean grantAlone(int amount) {
            if (count >= greatestCount || sum + amount > greatestSum) {
                return false;
            }
            count++;
            sum += amount;
            return true;
        }

        void beginAnew() {
            count = 0;
            sum = 0;
            touches = 0;
        }

        void doTold(int told) {
            if ((told & (1 << 1)) != 0) {
                triesLeft = TRIES;
            }
            if ((told & (1 << 2)) != 0) {
                isDead = true;
            }
            if ((told & (1 << 3)) != 0) {
                greatestCount = 0;
            }
        }

        boolean wasHeardOfAnother(Message message) {
            int c = message.counter;
            return c >= 0 && c < heardOf.length && heardOf[c] != 0 && heardOf[c] != message.payment + 1;
        }

        void hearCounter(Message message) {
            int c = message.counter;
            if (c >= 0 && c < heardOf.length && heardOf[c] == 0) {
                heardOf[c] = message.payment + 1;
                heardCount++;
            }
        }

        /** The number under which the counter was posted, or NONE. */
        int postedWith(int counterOfPayment) {
            boolean fits = counterOfPayment >= 0 && counterOfPayment < postedAs.length;
            return fits ? postedAs[counterOfPayment] - 1 : NONE;
        }

        void postWith(Message message) {
            if (message.counter >= 0 && message.counter < postedAs.length) {
                postedAs[message.counter] = message.payment + 1;
            }
        }
    }

    /** A payment, as its terminal knows it. */
    private static final class Payment {
        final int number;
        final Card card;
        final Terminal shop;
        final int amount;
        final int counter;
        int stamp = 0;
        int tick = 0;
        int state = ASKING;
        int reason = 0;
        int grantedBy = BY_CARD;
        boolean isSent = false;
        boolean isTouched = false;

        Payment(int number, Card card, Terminal shop, int amount) {
            this.number = number;
            this.card = card;
            this.shop = shop;
            this.amount = amount;
            this.counter = card.counter;
        }

        void bePaid() {
            state = PAID;
            stamp = card.stamp(counter, amount, shop.number, STAMP_PAID);
        }

        void beAsking() {
            state = ASKING;
            stamp = card.stamp(counter, amount, shop.number, STAMP_ASKED);
        }

        boolean isGood() {
            return state == PAID || state == GRANTED;
        }

        void giveUp() {
            if (amount <= shop.floor && !card.isDead && card.grantAlone(amount)) {
                bePaid();
            } else {
                state = GIVEN_UP;
            }
        }

        void hearAnswer(Message answer) {
            boolean isRight = answer.by == BY_ISSUER
                    && answer.stamp == card.stamp(counter, amount, shop.number, STAMP_ANSWERED);
            if (answer.what == NO) {
                state = DENIED;
                reason = answer.reason;
            } else if (isRight || answer.by == BY_SWITCH) {
                state = GRANTED;
                grantedBy = answer.by;
            }
            if (isRight && state == GRANTED) {
                card.beginAnew();
            }
            if (isRight) {
                card.doTold(answer.told);
            }
        }

        Message ask() {
            return fill(new Message(ASK, number));
        }

        Message record() {
            Message record = fill(new Message(RECORD, number));
            record.by = grantedBy;
            return record;
        }

        private Message fill(Message message) {
            message.card = card.number;
            message.counter = counter;
            message.amount = amount;
            message.stamp = stamp;
            return message;
        }
    }

    /** What goes on a line; each sort uses the fields that the document names for it. */
    private static final class Message {
        int sort;
        int payment;
        int card = NONE;
        int shop = NONE;
        int counter = 0;
        int amount = 0;
        int stamp = 0;
        int by = BY_CARD;
        int what = NOTHING;
        int reason = 0;
        int told = 0;
        int number = 0;
        int comes = NONE;
        int latestPut = NONE;
        boolean isForged = false;

        Message(int sort, int payment) {
            this.sort = sort;
            this.payment = payment;
        }

        Message becomeLike(Message other) {
            sort = other.sort;
            payment = other.payment;
            card = other.card;
            shop = other.shop;
            counter = other.counter;
            amount = other.amount;
            stamp = other.stamp;
            by = other.by;
            what = other.what;
            reason = other.reason;
            told = other.told;
            number = other.number;
            isForged = other.isForged;
            return this;
        }
    }

    /** One direction between a terminal and the switch. */
    private static final class Line {
        final Clock clock;
        final int[] faultsLeft = new int[3];
        // The first ones, as many as count tells, are on the line, in the order in which they were put
        // there. Those behind them have come and are used again: terminals repeat without an end.
        final ArrayList<Message> messages = new ArrayList<>();
        int count = 0;

        Line(Clock clock) {
            this.clock = clock;
        }

        void put(Message message) {
            int fault = takeFault();
            int copies = fault == LOST ? 0 : fault == DOUBLED ? 2 : 1;
            for (int i = 0; i < copies; i++) {
                if (count >= messages.size()) {
                    messages.add(new Message(NOTHING, NONE));
                }
                Message slot = messages.get(count).becomeLike(message);
                slot.comes = clock.tick + clock.delay + (fault == LATE ? LATE_TICKS : 0);
                count++;
            }
        }

        private int takeFault() {
            for (int how = 0; how < faultsLeft.length; how++) {
                if (faultsLeft[how] > 0) {
                    faultsLeft[how]--;
                    return how;
                }
            }
            return NONE;
        }

        void dropCome() {
            int stay = 0;
            for (int i = 0; i < count; i++) {
                Message message = messages.get(i);
                if (message.comes != clock.tick) {
                    messages.set(i, messages.get(stay));
                    messages.set(stay, message);
                    stay++;
                }
            }
            count = stay;
        }
    }

    /** A shop with its terminal. */
    private static final class Terminal {
        final int number;
        final int floor;
        final int pick;
        final Clock clock;
        final Line up;
        final Line down;
        final ArrayList<Payment> asking = new ArrayList<>();
        final ArrayList<Message> kept = new ArrayList<>();
        final boolean[] isBackHeard = new boolean[MOST_BACKS];
        int backCount = 0;
        int paymentCount = 0;
        long money = 0;
        long between = 0;

        Terminal(int number, int floor, int pick, Clock clock) {
            this.number = number;
            this.floor = floor;
            this.pick = pick;
            this.clock = clock;
            this.up = new Line(clock);
            this.down = new Line(clock);
        }

        /** Whether the issuer hears this BACK MONEY for the first time; it counts as heard from now on. */
        boolean isFirstTime(int back) {
            if (back < 0 || back >= isBackHeard.length || isBackHeard[back]) {
                return false;
            }
            isBackHeard[back] = true;
            return true;
        }

        boolean mustAsk(int amount) {
            return amount > floor || pick > 0 && (paymentCount + 1) % pick == 0;
        }

        void sendAsk(Payment payment) {
            asking.add(payment);
            up.put(payment.ask());
        }

        void sendAndKeep(Message message) {
            kept.add(message);
            message.latestPut = clock.tick;
            up.put(message);
        }

        void hearWhatComes() {
            int many = down.count;
            for (int i = 0; i < many; i++) {
                Message message = down.messages.get(i);
                if (message.comes == clock.tick) {
                    if (message.sort == ANSWER) {
                        hearAnswer(message);
                    } else if (!message.isForged) {
                        forget(message);
                    }
                }
            }
            down.dropCome();
        }

        private void hearAnswer(Message answer) {
            for (int i = 0; i < asking.size(); i++) {
                Payment payment = asking.get(i);
                if (payment.number == answer.payment) {
                    payment.hearAnswer(answer);
                    if (payment.state != ASKING) {
                        asking.remove(i);
                    }
                    return;
                }
            }
        }

        private void forget(Message done) {
            for (int i = 0; i < kept.size(); i++) {
                Message own = kept.get(i);
                if (own.sort == done.sort && own.payment == done.payment && own.number == done.number) {
                    kept.remove(i);
                    return;
                }
            }
        }

        /** Payments are asking in the order of their numbers, so that those that wait longest stand first. */
        void giveUpOldest() {
            int many = asking.size();
            for (int i = 0; i < many && !asking.isEmpty(); i++) {
                Payment payment = asking.get(0);
                if (clock.tick - payment.tick < WAITING_TICKS) {
                    return;
                }
                asking.remove(0);
                payment.giveUp();
                sendAndKeep(new Message(TAKE_BACK, payment.number));
            }
        }

        void repeatKept() {
            for (int i = 0; i < kept.size(); i++) {
                Message message = kept.get(i);
                if (clock.tick - message.latestPut >= REPEATING_TICKS) {
                    message.latestPut = clock.tick;
                    up.put(message);
                }
            }
        }
    }

    /** Stands in while the issuer is closed. */
    private static final class Switch {
        // A note is the ASK that was granted. All of them are of the time since the issuer closed.
        final ArrayList<Message> notes = new ArrayList<>();
        int standIn = 1000;
        boolean isOpen = true;

        Message answerTo(Message ask) {
            Message answer = new Message(ANSWER, ask.payment);
            answer.by = BY_SWITCH;
            answer.what = grant(ask) ? YES : NO;
            answer.reason = answer.what == YES ? 0 : 8;
            return answer;
        }

        private boolean grant(Message ask) {
            int ofCard = 0;
            for (int i = 0; i < notes.size(); i++) {
                if (notes.get(i).payment == ask.payment) {
                    return true;
                }
                ofCard += notes.get(i).card == ask.card ? 1 : 0;
            }
            if (ask.amount > standIn || ofCard >= MOST_STAND_INS) {
                return false;
            }
            notes.add(new Message(ASK, ask.payment).becomeLike(ask));
            return true;
        }
    }

    /** What the issuer knows of one number. */
    private static final class Known {
        Message ask = null;
        Message answer = null;
        Message note = null;
        int hold = 0;
        Account holder = null;
        boolean isTakenBack = false;
        boolean isRejected = false;
        boolean isDisputed = false;
        // Of a POSTED one: the RECORD, whom it was posted for, and what was not given back.
        Message record = null;
        Account payer = null;
        Terminal shop = null;
        int left = 0;
        int day = NONE;

        boolean isPosted() {
            return record != null;
        }

        void beHeld(int amount, Account account) {
            if (holder == null) {
                hold = amount;
                holder = account;
                account.held += amount;
            }
        }

        void endHold() {
            if (holder != null) {
                holder.held -= hold;
                hold = 0;
                holder = null;
            }
        }

        void takeBack() {
            if (!isPosted()) {
                isTakenBack = true;
            }
            endHold();
        }

        /** Whether it was granted, and still is, by whom the record tells. */
        boolean isGranted(Message granted) {
            boolean didIssuer = answer != null && answer.what == YES;
            Message told = granted.by == BY_SWITCH ? note : didIssuer ? ask : null;
            return told != null && !isTakenBack && told.card == granted.card
                    && told.counter == granted.counter && told.amount == granted.amount;
        }

        void hearBackMoney(int amount, Terminal from) {
            if (isPosted() && shop == from && amount <= left) {
                giveBack(amount);
            }
        }

        void giveBack(int amount) {
            if (payer != null && shop != null) {
                left -= amount;
                shop.between -= amount;
                payer.balance += amount;
            }
        }
    }

    private static final class Issuer {
        final ArrayList<Card> cards;
        final Clock clock;
        final Known[] numbers = new Known[MOST_NUMBERS];
        int postedCount = 0;
        int rejectedCount = 0;

        Issuer(ArrayList<Card> cards, Clock clock) {
            this.cards = cards;
            this.clock = clock;
        }

        /** What is known of a number, or null. */
        Known find(int number) {
            return number >= 0 && number < numbers.length ? numbers[number] : null;
        }

        private Known findOrMake(int number) {
            if (number < 0 || number >= numbers.length) {
                return null;
            }
            if (numbers[number] == null) {
                numbers[number] = new Known();
            }
            return numbers[number];
        }

        private Card findCard(int number) {
            return number >= 0 && number < cards.size() ? cards.get(number) : null;
        }

        boolean hasPosted(int number) {
            Known known = find(number);
            return known != null && known.isPosted();
        }

        /** Hears what is DONE in any case. */
        void hear(Message message, Terminal shop) {
            Known known = findOrMake(message.payment);
            if (known == null) {
                return;
            }
            if (message.sort == TAKE_BACK) {
                known.takeBack();
            } else if (message.sort == RECORD) {
                hearRecord(message, known, shop);
            } else if (shop.isFirstTime(message.number)) {
                known.hearBackMoney(message.amount, shop);
            }
        }

        Message answerTo(Message ask) {
            Known known = findOrMake(ask.payment);
            if (known != null && known.answer != null) {
                return known.answer;
            }
            Card card = findCard(ask.card);
            int reason = reasonAgainst(ask, known, card);
            Message answer = new Message(ANSWER, ask.payment);
            answer.by = BY_ISSUER;
            answer.what = reason == 0 ? YES : NO;
            answer.reason = reason;
            if (card != null) {
                answer.stamp = card.stamp(ask.counter, ask.amount, ask.shop, STAMP_ANSWERED);
                answer.told = card.toTell;
                card.toTell = 0;
            }
            if (card != null && (reason == 0 || reason >= 4 && reason <= 6)) {
                card.hearCounter(ask);
            }
            if (known != null) {
                known.ask = new Message(ASK, ask.payment).becomeLike(ask);
                known.answer = answer;
                if (card != null && reason == 0) {
                    known.beHeld(ask.amount, card.account);
                }
            }
            return answer;
        }

        private static int reasonAgainst(Message ask, Known known, Card card) {
            if (known != null && (known.isTakenBack || known.isPosted())) {
                return 7;
            }
            if (card == null) {
                return 1;
            }
            if (ask.stamp != card.stamp(ask.counter, ask.amount, ask.shop, STAMP_ASKED)) {
                return 2;
            }
            if (card.wasHeardOfAnother(ask)) {
                return 3;
            }
            if (card.isStolen) {
                return 4;
            }
            if (card.account.isFrozen) {
                return 5;
            }
            return ask.amount > card.account.balance - card.account.held ? 6 : 0;
        }

        void hearNote(Message note) {
            Known known = findOrMake(note.payment);
            Card card = findCard(note.card);
            if (known == null || card == null || card.wasHeardOfAnother(note)
                    || note.stamp != card.stamp(note.counter, note.amount, note.shop, STAMP_ASKED)) {
                return;
            }
            card.hearCounter(note);
            known.note = note;
            if (!known.isTakenBack && !known.isPosted()) {
                known.beHeld(note.amount, card.account);
            }
        }

        private void hearRecord(Message record, Known known, Terminal shop) {
            if (known.isPosted()) {
                return;
            }
            Card card = findCard(record.card);
            boolean isNew = card != null && card.postedWith(record.counter) == NONE;
            boolean isDue = record.by == BY_CARD
                    ? isNew && record.stamp == card.stamp(record.counter, record.amount, record.shop, STAMP_PAID)
                    : known.isGranted(record);
            if (card == null || !isNew || !isDue) {
                rejectedCount += known.isRejected ? 0 : 1;
                known.isRejected = true;
                return;
            }
            known.endHold();
            known.record = new Message(RECORD, record.payment).becomeLike(record);
            known.payer = card.account;
            known.shop = shop;
            known.left = record.amount;
            known.day = clock.day;
            card.account.balance -= record.amount;
            shop.between += record.amount;
            card.postWith(record);
            postedCount++;
        }

        // ---- the parts of the theorem

        boolean allStampsAreOfCards(ArrayList<Payment> payments) {
            for (int i = 0; i < numbers.length; i++) {
                if (hasPosted(i) && !isStampOfOne(find(i), payments)) {
                    return false;
                }
            }
            return true;
        }

        private static boolean isStampOfOne(Known known, ArrayList<Payment> payments) {
            if (known == null || known.record == null) {
                return false;
            }
            Message record = known.record;
            for (int i = 0; i < payments.size(); i++) {
                Payment payment = payments.get(i);
                if (payment.card.number == record.card && payment.counter == record.counter
                        && payment.amount == record.amount && payment.shop == known.shop
                        && payment.stamp == record.stamp) {
                    return true;
                }
            }
            return false;
        }

        boolean eachCounterIsPostedOnce() {
            for (int i = 0; i < numbers.length; i++) {
                Known known = numbers[i];
                if (known != null && known.record != null) {
                    Card card = findCard(known.record.card);
                    if (card == null || card.postedWith(known.record.counter) != i) {
                        return false;
                    }
                }
            }
            return true;
        }

        boolean noSettledHasHold() {
            for (int i = 0; i < numbers.length; i++) {
                Known known = numbers[i];
                if (known != null && known.holder != null && (known.isPosted() || known.isTakenBack)) {
                    return false;
                }
            }
            return true;
        }

        long sumOfHolds(Account account) {
            long sum = 0;
            for (int i = 0; i < numbers.length; i++) {
                Known known = numbers[i];
                if (known != null && known.holder == account) {
                    sum += known.hold;
                }
            }
            return sum;
        }
    }

    /** The text, and the reading of it, a command at a time. */
    private static final class Script {
        final StringBuilder signs = new StringBuilder();
        int place = 0;
        int command = NONE;
        final int[] numbers = new int[4];

        int firstFault() {
            place = 0;
            for (int commands = 0; commands <= MOST_SIGNS; commands++) {
                if (isAtEnd()) {
                    return NONE;
                }
                int fault = readCommand();
                if (fault != NONE) {
                    return fault;
                }
            }
            return NONE;
        }

        boolean isAtEnd() {
            return tokenFrom(place) >= signs.length();
        }

        /** Reads the next command into command and numbers; answers the place of its fault, or NONE. */
        int readCommand() {
            int start = tokenFrom(place);
            int end = rowFrom(start, 'a', 'z');
            command = commandOf(start, end);
            if (command < 0 || command >= NUMBERS_OF.length) {
                return start;
            }
            place = end;
            int fault = NONE;
            for (int i = 0; i < NUMBERS_OF[command] && fault == NONE; i++) {
                fault = readNumber(i);
            }
            if (fault == NONE && command == SAY_PAY) {
                fault = readPin();
            }
            return fault == NONE ? readEnd() : fault;
        }

        private int readNumber(int which) {
            int start = tokenFrom(place);
            int end = rowFrom(start, '0', '9');
            if (end == start || end - start > 7 || which < 0 || which >= numbers.length) {
                return start;
            }
            int number = 0;
            for (int i = start; i < end; i++) {
                number = number * 10 + signs.charAt(i) - '0';
            }
            numbers[which] = number;
            place = end;
            return NONE;
        }

        private int readPin() {
            int start = tokenFrom(place);
            int end = rowFrom(start, 'a', 'z');
            if (!isWord(start, end, "touch")) {
                return readNumber(3);
            }
            numbers[3] = NONE;
            place = end;
            return NONE;
        }

        private int readEnd() {
            int start = tokenFrom(place);
            if (start >= signs.length() || signs.charAt(start) != ';') {
                return start;
            }
            place = start + 1;
            return NONE;
        }

        /** The place of the first sign that is no blank, or the length. */
        private int tokenFrom(int from) {
            return rowFrom(from, ' ', ' ');
        }

        /** The place behind the row of such signs that begins there. */
        private int rowFrom(int from, char least, char most) {
            for (int i = from; i < signs.length(); i++) {
                if (signs.charAt(i) < least || signs.charAt(i) > most) {
                    return i;
                }
            }
            return signs.length();
        }

        private boolean isWord(int start, int end, String word) {
            if (end - start != word.length()) {
                return false;
            }
            for (int i = start; i < end; i++) {
                if (signs.charAt(i) != word.charAt(i - start)) {
                    return false;
                }
            }
            return true;
        }

        private int commandOf(int start, int end) {
            for (int i = 0; i < NUMBERS_OF.length; i++) {
                if (isWord(start, end, wordOf(i))) {
                    return i;
                }
            }
            return NONE;
        }

        private static String wordOf(int command) {
            switch (command) {
                case SAY_ACCOUNT: return "account";
                case SAY_SHOP: return "shop";
                case SAY_CARD: return "card";
                case SAY_PAY: return "pay";
                case SAY_SEND: return "send";
                case SAY_BACK: return "back";
                case SAY_WAIT: return "wait";
                case SAY_FAULT: return "fault";
                case SAY_OPEN: return "open";
                case SAY_CLOSE: return "close";
                case SAY_HOUSE: return "house";
                case SAY_TELL: return "tell";
                case SAY_STOLEN: return "stolen";
                case SAY_FREEZE: return "freeze";
                case SAY_DAY: return "day";
                default: return "dispute";
            }
        }
    }
}
