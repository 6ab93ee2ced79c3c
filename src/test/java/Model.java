import java.util.ArrayList;
import java.util.HashMap;
import java.util.LinkedHashMap;
import java.util.List;
import java.util.Map;
import java.util.NoSuchElementException;
import java.util.TreeMap;
import java.util.TreeSet;
import java.util.regex.Matcher;
import java.util.regex.Pattern;

/**
 * The document once more, as near to its words as the library lets it be and with no thought of room or speed.
 * It shares no code with the program, so that a slip in one of them shows as a difference.
 */
final class Model {
    record Pair(int card, int counter) { }

    record Ask(int payment, int card, int counter, int amount, int stamp) { }
    record TakeBack(int payment) { }
    record Rec(int payment, int card, int counter, int amount, int stamp, String of, boolean forged) { }
    record Back(int number, int payment, int amount) { }
    record Answer(int payment, String what, int reason, int stamp, List<Integer> told) { }
    record Done(Object heard) { }
    record Note(Ask ask, int shop) { }

    static final class OnLine {
        int comes;
        Object message;
    }

    static final class Way {
        final List<OnLine> on = new ArrayList<>();
        final int[] faults = new int[3];
    }

    static final class Keep {
        Object message;
        int put;
    }

    static final class Shop {
        int floor;
        int pick;
        long money;
        long between;
        int payments;
        int backs;
        final Way[] ways = {new Way(), new Way()};
        final List<Keep> keeps = new ArrayList<>();
        final TreeSet<Integer> heardBacks = new TreeSet<>();
    }

    static final class Card {
        int account;
        int pin;
        int maxCount;
        int maxSum;
        int counter;
        int tries = 3;
        int touches;
        int count;
        int sum;
        boolean dead;
        boolean stolen;
        TreeSet<Integer> told = new TreeSet<>();
    }

    static final class Payment {
        int state;
        int card;
        int shop;
        int amount;
        int counter;
        int stamp;
        int tick;
        int reason;
        int by;
        boolean sent;
        boolean touched;
    }

    record Posted(Rec record, int shop, int day) { }

    final StringBuilder text = new StringBuilder();
    int tick;
    int day;
    int delay = 1;
    int standIn = 1000;
    int fee = 100;
    long feeMoney;
    boolean open = true;
    final List<long[]> accounts = new ArrayList<>(); // balance, frozen
    final List<Shop> shops = new ArrayList<>();
    final List<Card> cards = new ArrayList<>();
    final List<Payment> payments = new ArrayList<>();
    final List<Note> notes = new ArrayList<>();
    final Map<Integer, Integer> standIns = new HashMap<>();
    // the issuer
    final Map<Integer, Answer> answered = new TreeMap<>();
    final Map<Integer, Ask> asked = new TreeMap<>();
    final Map<Integer, Note> heardNotes = new TreeMap<>();
    final Map<Integer, int[]> holds = new TreeMap<>(); // account, amount
    final Map<Integer, Posted> posted = new TreeMap<>();
    final Map<Integer, Integer> left = new TreeMap<>();
    final TreeSet<Integer> takenBack = new TreeSet<>();
    final TreeSet<Integer> rejected = new TreeSet<>();
    final TreeSet<Integer> disputed = new TreeSet<>();
    final Map<Pair, Integer> heard = new HashMap<>();

    static void there(boolean is) {
        if (!is) {
            throw new IndexOutOfBoundsException();
        }
    }

    static void fits(boolean does) {
        if (!does) {
            throw new IllegalArgumentException();
        }
    }

    static void may(boolean may) {
        if (!may) {
            throw new IllegalStateException();
        }
    }

    static <T> boolean has(List<T> list, int number) {
        return 0 <= number && number < list.size();
    }

    // ---- texts

    int type(long signs) {
        StringBuilder more = new StringBuilder();
        for (byte b : java.nio.ByteBuffer.allocate(8).putLong(signs).array()) {
            fits(b == 0 || b >= 32 && b <= 126);
            if (b != 0) {
                more.append((char) b);
            }
        }
        may(text.length() + more.length() <= 600);
        text.append(more);
        return text.length();
    }

    static final Pattern TOKEN = Pattern.compile(" *(?:([a-z]+)|([0-9]+)|(;)|(.)|$)");
    static final Map<String, Integer> NUMBERS = new LinkedHashMap<>();
    static {
        String[] all = {"account 1", "shop 2", "card 4", "pay 4", "send 1", "back 3", "wait 1", "fault 4", "open 0",
            "close 0", "house 3", "tell 2", "stolen 1", "freeze 1", "day 0", "dispute 1"};
        for (String one : all) {
            NUMBERS.put(one.split(" ")[0], Integer.parseInt(one.split(" ")[1]));
        }
    }

    /** The commands of the text; the fault, if there is one, is thrown as the message of an exception. */
    List<List<Object>> commands() {
        List<Object> tokens = new ArrayList<>();
        List<Integer> places = new ArrayList<>();
        Matcher m = TOKEN.matcher(text);
        int from = 0;
        while (from < text.length() && m.find(from)) {
            from = m.end();
            for (int g = 1; g <= 4; g++) {
                if (m.group(g) != null) {
                    tokens.add(g == 2 ? (Object) (m.group(2).length() > 7 ? "!" : Integer.valueOf(m.group(2)))
                            : g == 4 ? "!" : m.group(g));
                    places.add(m.start(g));
                }
            }
        }
        tokens.add("end");
        places.add(text.length());
        List<List<Object>> all = new ArrayList<>();
        int at = 0;
        while (at < tokens.size() - 1) {
            List<Object> one = new ArrayList<>();
            Integer numbers = tokens.get(at) instanceof String ? NUMBERS.get(tokens.get(at)) : null;
            if (numbers == null) {
                throw new NoSuchElementException(places.get(at) + "");
            }
            String word = (String) tokens.get(at);
            one.add(word);
            at++;
            for (int i = 0; i < numbers; i++, at++) {
                boolean touch = word.equals("pay") && i == 3 && tokens.get(at).equals("touch");
                if (!(tokens.get(at) instanceof Integer) && !touch) {
                    throw new NoSuchElementException(places.get(at) + "");
                }
                one.add(touch ? (Object) (-1) : tokens.get(at));
            }
            if (!tokens.get(at).equals(";")) {
                throw new NoSuchElementException(places.get(at) + "");
            }
            at++;
            all.add(one);
        }
        return all;
    }

    int fault() {
        try {
            commands();
            return -1;
        } catch (NoSuchElementException e) {
            return Integer.parseInt(e.getMessage());
        }
    }

    int play() {
        List<List<Object>> all;
        try {
            all = commands();
        } catch (NoSuchElementException e) {
            text.setLength(0);
            throw new IllegalArgumentException();
        }
        text.setLength(0);
        int done = 0;
        for (List<Object> one : all) {
            try {
                command(one);
                done++;
            } catch (IndexOutOfBoundsException | IllegalArgumentException | IllegalStateException e) {
                // left out
            }
        }
        return done;
    }

    void command(List<Object> c) {
        int[] n = new int[4];
        for (int i = 1; i < c.size(); i++) {
            n[i - 1] = (Integer) c.get(i);
        }
        switch ((String) c.get(0)) {
            case "account" -> account(n[0]);
            case "shop" -> shop(n[0], n[1]);
            case "card" -> card(n[0], n[1], n[2], n[3]);
            case "pay" -> pay(n[0], n[1], n[2], n[3]);
            case "send" -> sends(n[0]);
            case "back" -> backMoney(n[0], n[1], n[2]);
            case "wait" -> passes(n[0]);
            case "fault" -> faults(n[0], n[1], n[2], n[3]);
            case "open" -> setOpen(true);
            case "close" -> setOpen(false);
            case "house" -> setHouse(n[0], n[1], n[2]);
            case "tell" -> tells(n[0], n[1]);
            case "stolen" -> stolen(n[0]);
            case "freeze" -> freeze(n[0], true);
            case "day" -> endDay();
            case "dispute" -> dispute(n[0]);
            default -> throw new AssertionError();
        }
    }

    // ---- what there is

    int account(int balance) {
        fits(0 <= balance && balance <= 9000000);
        may(accounts.size() < 8);
        accounts.add(new long[] {balance, 0});
        return accounts.size() - 1;
    }

    int shop(int floor, int pick) {
        fits(0 <= floor && floor <= 50000 && 0 <= pick && pick <= 9);
        may(shops.size() < 4);
        Shop shop = new Shop();
        shop.floor = floor;
        shop.pick = pick;
        shops.add(shop);
        return shops.size() - 1;
    }

    int card(int account, int pin, int count, int sum) {
        there(has(accounts, account));
        fits(0 <= pin && pin <= 9999 && 0 <= count && count <= 9 && 0 <= sum && sum <= 100000);
        may(cards.size() < 8);
        Card card = new Card();
        card.account = account;
        card.pin = pin;
        card.maxCount = count;
        card.maxSum = sum;
        cards.add(card);
        return cards.size() - 1;
    }

    int setHouse(int newStandIn, int newFee, int newDelay) {
        fits(0 <= newStandIn && newStandIn <= 20000 && 0 <= newFee && newFee <= 500 && 1 <= newDelay && newDelay <= 5);
        int old = fee;
        standIn = newStandIn;
        fee = newFee;
        delay = newDelay;
        return old;
    }

    static int key(int c) {
        return (271 * c * c + 7919 * c + 4242) % 9973;
    }

    static int stamp(int card, int... four) {
        long x = key(card);
        for (int number : four) {
            x = (x * 37L + number + 11L) % 999983L;
        }
        return (int) x;
    }

    // ---- payments

    int pay(int c, int s, int amount, int pin) {
        there(has(cards, c) && has(shops, s));
        fits(1 <= amount && amount <= 100000 && (pin == -1 || 0 <= pin && pin <= 9999));
        Card card = cards.get(c);
        Shop shop = shops.get(s);
        if (card.dead) {
            return -1;
        }
        if (pin != -1 && card.tries == 0) {
            return -2;
        }
        if (pin != -1 && pin != card.pin) {
            card.tries--;
            return -3;
        }
        if (pin == -1 && (amount > 2500 || card.touches == 5)) {
            return -4;
        }
        if (payments.size() == 200) {
            return -5;
        }
        if (pin == -1) {
            card.touches++;
        } else {
            card.tries = 3;
            card.touches = 0;
        }
        card.counter++;
        Payment p = new Payment();
        p.card = c;
        p.shop = s;
        p.amount = amount;
        p.counter = card.counter;
        p.tick = tick;
        p.touched = pin == -1;
        boolean asks = amount > shop.floor;
        if (shop.pick > 0 && (shop.payments + 1) % shop.pick == 0) {
            asks = true;
        }
        payments.add(p);
        shop.payments++;
        int number = payments.size() - 1;
        if (!asks && cardGrants(card, amount)) {
            p.state = 0;
            p.stamp = stamp(c, p.counter, amount, s, 1);
        } else {
            p.state = 1;
            p.stamp = stamp(c, p.counter, amount, s, 2);
            put(s, 0, new Ask(number, c, p.counter, amount, p.stamp));
        }
        return number;
    }

    static boolean cardGrants(Card card, int amount) {
        if (card.count < card.maxCount && card.sum + amount <= card.maxSum) {
            card.count += 1;
            card.sum += amount;
            return true;
        }
        return false;
    }

    void put(int shop, int way, Object message) {
        Way line = shops.get(shop).ways[way];
        int later = delay;
        int times = 1;
        if (line.faults[0] > 0) {
            line.faults[0]--;
            times = 0;
        } else if (line.faults[1] > 0) {
            line.faults[1]--;
            times = 2;
        } else if (line.faults[2] > 0) {
            line.faults[2]--;
            later += 4;
        }
        for (int i = 0; i < times; i++) {
            OnLine on = new OnLine();
            on.comes = tick + later;
            on.message = message;
            line.on.add(on);
        }
    }

    void putAndKeep(int shop, Object message) {
        Keep keep = new Keep();
        keep.message = message;
        keep.put = tick;
        shops.get(shop).keeps.add(keep);
        put(shop, 0, message);
    }

    Rec recordOf(int number, int as, boolean forged) {
        Payment p = payments.get(number);
        String of = forged || p.state == 0 ? "paid" : p.by == 1 ? "issuer" : "switch";
        return new Rec(as, p.card, p.counter, p.amount, p.stamp, of, forged);
    }

    int sends(int s) {
        there(has(shops, s));
        int sent = 0;
        for (int i = 0; i < payments.size(); i++) {
            Payment p = payments.get(i);
            if (p.shop == s && (p.state == 0 || p.state == 2) && !p.sent) {
                p.sent = true;
                sent++;
                putAndKeep(s, recordOf(i, i, false));
            }
        }
        return sent;
    }

    int backMoney(int s, int payment, int amount) {
        there(has(shops, s) && has(payments, payment));
        fits(payments.get(payment).shop == s && 1 <= amount && amount <= 100000);
        may(shops.get(s).backs < 100);
        int number = shops.get(s).backs++;
        putAndKeep(s, new Back(number, payment, amount));
        return number;
    }

    int forge(int s, int payment, int as) {
        there(has(shops, s) && has(payments, payment));
        fits(0 <= as && as <= 999);
        Rec copy = recordOf(payment, as, true);
        put(s, 0, copy);
        return copy.stamp;
    }

    // ---- time and lines

    int passes(int ticks) {
        fits(1 <= ticks && ticks <= 200);
        may(tick + ticks <= 3000);
        for (int i = 0; i < ticks; i++) {
            tick++;
            for (int s = 0; s < shops.size(); s++) {
                for (Object up : coming(s, 0)) {
                    comesUp(s, up);
                }
                for (Object down : coming(s, 1)) {
                    comesDown(s, down);
                }
            }
            for (int s = 0; s < shops.size(); s++) {
                looks(s);
            }
        }
        return tick;
    }

    List<Object> coming(int s, int way) {
        List<Object> come = new ArrayList<>();
        List<OnLine> on = shops.get(s).ways[way].on;
        for (OnLine one : on) {
            if (one.comes == tick) {
                come.add(one.message);
            }
        }
        on.removeIf(one -> one.comes == tick);
        return come;
    }

    void comesUp(int s, Object message) {
        if (open) {
            put(s, 1, issuerHears(s, message));
        } else if (message instanceof Ask ask) {
            boolean noted = notes.stream().anyMatch(n -> n.ask.payment == ask.payment);
            int granted = standIns.getOrDefault(ask.card, 0);
            if (!noted && (ask.amount > standIn || granted >= 3)) {
                put(s, 1, new Answer(ask.payment, "no", 8, -1, null));
                return;
            }
            if (!noted) {
                notes.add(new Note(ask, s));
                standIns.put(ask.card, granted + 1);
            }
            put(s, 1, new Answer(ask.payment, "switch", 0, -1, null));
        }
    }

    void comesDown(int s, Object message) {
        if (message instanceof Answer answer) {
            Payment p = payments.get(answer.payment);
            Card card = cards.get(p.card);
            if (p.state != 1) {
                return;
            }
            boolean right = answer.stamp == stamp(p.card, p.counter, p.amount, s, 3);
            if (answer.what.equals("switch")) {
                p.state = 2;
                p.by = 2;
                return;
            }
            if (answer.what.equals("issuer")) {
                if (!right) {
                    return;
                }
                p.state = 2;
                p.by = 1;
                card.count = 0;
                card.sum = 0;
                card.touches = 0;
            } else {
                p.state = 3;
                p.reason = answer.reason;
            }
            if (answer.told != null && right) {
                for (int what : answer.told) {
                    if (what == 1) {
                        card.tries = 3;
                    } else if (what == 2) {
                        card.dead = true;
                    } else {
                        card.maxCount = 0;
                    }
                }
            }
        } else {
            Object heardMessage = ((Done) message).heard;
            if (heardMessage instanceof Rec r && r.forged) {
                return;
            }
            List<Keep> keeps = shops.get(s).keeps;
            for (int i = 0; i < keeps.size(); i++) {
                if (name(keeps.get(i).message).equals(name(heardMessage))) {
                    keeps.remove(i);
                    return;
                }
            }
        }
    }

    static String name(Object message) {
        if (message instanceof TakeBack t) {
            return "take back " + t.payment;
        }
        if (message instanceof Rec r) {
            return "record " + r.payment;
        }
        Back b = (Back) message;
        return "back " + b.payment + " " + b.number;
    }

    void looks(int s) {
        for (int i = 0; i < payments.size(); i++) {
            Payment p = payments.get(i);
            if (p.shop == s && p.state == 1 && tick - p.tick == 8) {
                Card card = cards.get(p.card);
                if (p.amount <= shops.get(s).floor && !card.dead && cardGrants(card, p.amount)) {
                    p.state = 0;
                    p.stamp = stamp(p.card, p.counter, p.amount, s, 1);
                } else {
                    p.state = 4;
                }
                putAndKeep(s, new TakeBack(i));
            }
        }
        for (Keep keep : shops.get(s).keeps) {
            if (keep.put <= tick - 10) {
                keep.put = tick;
                put(s, 0, keep.message);
            }
        }
    }

    int faults(int s, int line, int how, int many) {
        there(has(shops, s));
        fits((line == 0 || line == 1) && 0 <= how && how <= 2 && 0 <= many && many <= 100);
        return shops.get(s).ways[line].faults[how] += many;
    }

    int setOpen(boolean isOpen) {
        int hears = 0;
        if (isOpen && !open) {
            for (Note note : notes) {
                issuerHearsNote(note);
                hears++;
            }
            notes.clear();
        }
        if (!isOpen && open) {
            standIns.clear();
        }
        open = isOpen;
        return hears;
    }

    // ---- the issuer

    long free(int account) {
        return accounts.get(account)[0] - held(account);
    }

    long held(int account) {
        return holds.values().stream().filter(h -> h[0] == account).mapToLong(h -> h[1]).sum();
    }

    Object issuerHears(int s, Object message) {
        if (message instanceof Ask ask) {
            return issuerAnswers(s, ask);
        }
        if (message instanceof TakeBack t) {
            if (!posted.containsKey(t.payment)) {
                takenBack.add(t.payment);
            }
            holds.remove(t.payment);
        } else if (message instanceof Rec r) {
            issuerHearsRecord(s, r);
        } else {
            Back b = (Back) message;
            boolean first = shops.get(s).heardBacks.add(b.number);
            Posted at = posted.get(b.payment);
            if (first && at != null && at.shop == s && b.amount <= left.get(b.payment)) {
                moneyBack(b.payment, b.amount);
            }
        }
        return new Done(message);
    }

    void moneyBack(int number, int amount) {
        Posted at = posted.get(number);
        left.merge(number, -amount, Integer::sum);
        shops.get(at.shop).between -= amount;
        accounts.get(cards.get(at.record.card).account)[0] += amount;
    }

    Answer issuerAnswers(int s, Ask ask) {
        if (answered.containsKey(ask.payment)) {
            return answered.get(ask.payment);
        }
        int reason = 0;
        Pair pair = new Pair(ask.card, ask.counter);
        if (takenBack.contains(ask.payment) || posted.containsKey(ask.payment)) {
            reason = 7;
        } else if (!has(cards, ask.card)) {
            reason = 1;
        } else if (ask.stamp != stamp(ask.card, ask.counter, ask.amount, s, 2)) {
            reason = 2;
        } else if (heard.getOrDefault(pair, ask.payment) != ask.payment) {
            reason = 3;
        } else if (cards.get(ask.card).stolen) {
            reason = 4;
        } else if (accounts.get(cards.get(ask.card).account)[1] == 1) {
            reason = 5;
        } else if (ask.amount > free(cards.get(ask.card).account)) {
            reason = 6;
        }
        if (reason == 0 || reason == 4 || reason == 5 || reason == 6) {
            heard.put(pair, ask.payment);
        }
        if (reason == 0) {
            holds.putIfAbsent(ask.payment, new int[] {cards.get(ask.card).account, ask.amount});
        }
        List<Integer> told = new ArrayList<>(cards.get(ask.card).told);
        cards.get(ask.card).told.clear();
        Answer answer = new Answer(ask.payment, reason == 0 ? "issuer" : "no", reason,
                stamp(ask.card, ask.counter, ask.amount, s, 3), told);
        answered.put(ask.payment, answer);
        asked.put(ask.payment, ask);
        return answer;
    }

    void issuerHearsNote(Note note) {
        Ask ask = note.ask;
        Pair pair = new Pair(ask.card, ask.counter);
        if (has(cards, ask.card) && ask.stamp == stamp(ask.card, ask.counter, ask.amount, note.shop, 2)
                && heard.getOrDefault(pair, ask.payment) == ask.payment) {
            heard.put(pair, ask.payment);
            heardNotes.put(ask.payment, note);
            if (!takenBack.contains(ask.payment) && !posted.containsKey(ask.payment)) {
                holds.putIfAbsent(ask.payment, new int[] {cards.get(ask.card).account, ask.amount});
            }
        }
    }

    void issuerHearsRecord(int s, Rec r) {
        if (posted.containsKey(r.payment)) {
            return;
        }
        boolean other = posted.values().stream().anyMatch(p -> p.record.card == r.card && p.record.counter == r.counter);
        boolean good;
        if (r.of.equals("paid")) {
            good = r.stamp == stamp(r.card, r.counter, r.amount, s, 1);
        } else {
            Ask ask = r.of.equals("issuer") ? asked.get(r.payment)
                    : heardNotes.containsKey(r.payment) ? heardNotes.get(r.payment).ask : null;
            good = ask != null && !takenBack.contains(r.payment) && ask.card == r.card && ask.counter == r.counter
                    && ask.amount == r.amount
                    && (r.of.equals("switch") || answered.get(r.payment).what.equals("issuer"));
        }
        if (other || !good) {
            rejected.add(r.payment);
            return;
        }
        holds.remove(r.payment);
        accounts.get(cards.get(r.card).account)[0] -= r.amount;
        shops.get(s).between += r.amount;
        posted.put(r.payment, new Posted(r, s, day));
        left.put(r.payment, r.amount);
    }

    int tells(int c, int what) {
        there(has(cards, c));
        fits(1 <= what && what <= 3);
        cards.get(c).told.add(what);
        return cards.get(c).told.size();
    }

    boolean stolen(int c) {
        there(has(cards, c));
        boolean knew = cards.get(c).stolen;
        cards.get(c).stolen = true;
        return knew;
    }

    boolean freeze(int account, boolean isFrozen) {
        there(has(accounts, account));
        boolean was = accounts.get(account)[1] == 1;
        accounts.get(account)[1] = isFrozen ? 1 : 0;
        return was;
    }

    int dispute(int payment) {
        there(has(payments, payment));
        may(payments.get(payment).touched && posted.containsKey(payment) && !disputed.contains(payment)
                && (posted.get(payment).day == day || posted.get(payment).day == day - 1));
        disputed.add(payment);
        int amount = left.get(payment);
        moneyBack(payment, amount);
        return amount;
    }

    int endDay() {
        for (Shop shop : shops) {
            if (shop.between > 0) {
                long part = shop.between * fee / 10000;
                feeMoney += part;
                shop.money += shop.between - part;
                shop.between = 0;
            } else if (shop.between < 0) {
                long lacks = -shop.between;
                long gives = lacks < shop.money ? lacks : shop.money;
                shop.money -= gives;
                shop.between += gives;
            }
        }
        return ++day;
    }

    // ---- questions

    int cardAt(int c, int what) {
        there(has(cards, c));
        fits(0 <= what && what <= 8);
        Card card = cards.get(c);
        int heardOfIt = (int) heard.keySet().stream().filter(p -> p.card == c).count();
        return new int[] {card.counter, card.tries, card.touches, card.count, card.sum, card.dead ? 1 : 0,
            card.maxCount, key(c), heardOfIt}[what];
    }

    int paymentAt(int payment, int what) {
        there(has(payments, payment));
        fits(0 <= what && what <= 9);
        Payment p = payments.get(payment);
        return new int[] {p.state, p.card, p.shop, p.amount, p.counter, p.stamp, p.tick, p.reason, p.by,
            p.sent ? 1 : 0}[what];
    }

    int knows(int number, int what) {
        there(0 <= number && number <= 999);
        fits(0 <= what && what <= 7);
        Answer answer = answered.get(number);
        int said = answer == null ? 0 : answer.what.equals("issuer") ? 1 : 2;
        return new int[] {said, holds.containsKey(number) ? holds.get(number)[1] : 0,
            posted.containsKey(number) ? 1 : 0, takenBack.contains(number) ? 1 : 0, rejected.contains(number) ? 1 : 0,
            heardNotes.containsKey(number) ? 1 : 0, left.getOrDefault(number, 0),
            posted.containsKey(number) ? posted.get(number).day : -1}[what];
    }

    long accountAt(int account, int what) {
        there(has(accounts, account));
        fits(0 <= what && what <= 3);
        return new long[] {accounts.get(account)[0], held(account), free(account), accounts.get(account)[1]}[what];
    }

    long shopAt(int s, int what) {
        there(has(shops, s));
        fits(0 <= what && what <= 5);
        Shop shop = shops.get(s);
        return new long[] {shop.money, shop.between, shop.payments, shop.keeps.size(), shop.ways[0].on.size(),
            shop.ways[1].on.size()}[what];
    }

    int count(int what) {
        fits(0 <= what && what <= 9);
        return new int[] {tick, day, accounts.size(), shops.size(), cards.size(), payments.size(), posted.size(),
            rejected.size(), notes.size(), open ? 1 : 0}[what];
    }

    long fees() {
        return feeMoney;
    }

    double meanPayment(int s) {
        there(has(shops, s));
        return payments.stream().filter(p -> p.shop == s && (p.state == 0 || p.state == 2)).mapToInt(p -> p.amount)
                .average().orElse(0.0);
    }

    float grantedShare() {
        long good = payments.stream().filter(p -> p.state == 0 || p.state == 2).count();
        return payments.isEmpty() ? 0 : (float) good / payments.size();
    }

    long checksum() {
        long sum = 0;
        for (int i = 0; i < payments.size(); i++) {
            Payment p = payments.get(i);
            sum = 31 * sum + p.state + 7 * p.amount + 3 * p.counter + (posted.containsKey(i) ? 1000 : 0);
        }
        return sum;
    }

    int errors() {
        return 0;
    }
}
