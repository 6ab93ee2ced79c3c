/** Boundary cases of section 7 and of the promises 2 to 4: texts. */
final class BoundsOfTexts {
    private static final String FULL = " ".repeat(600);

    private BoundsOfTexts() {
    }

    static void run() {
        signs();
        grammar();
        numbersOfCommands();
        digits();
        words();
        blanks();
        places();
        endsTooEarly();
        commandsAreCalls();
        numbersInTheirOrder();
        constant();
        promisesOfType();
        promisesOfFault();
        promisesOfPlay();
    }

    private static Chipcardhouse houseOf(String text) {
        Chipcardhouse house = new Chipcardhouse();
        Check.type(house, text);
        return house;
    }

    /** A text with a fault has it at this place, and is not played; one without is played. */
    private static void faultIs(String text, int place) {
        Chipcardhouse house = houseOf(text);
        Check.due("the fault of '" + text + "'", house.fault(), place);
        Check.due("asking leaves the text", house.type(0), text.length());
        try {
            house.play();
            Check.due("'" + text + "' is played", place, Chipcardhouse.NONE);
        } catch (IllegalArgumentException e) {
            Check.due("'" + text + "' is not played", place != Chipcardhouse.NONE, true);
        }
        Check.due("the text is emptied", house.type(0), 0);
    }

    // ---- section 7

    private static void signs() {
        Bound.term(7, 2, "The text is a row of at most 600 signs, told by their codes (32 to 126).");
        Chipcardhouse house = new Chipcardhouse();
        for (int i = 1; i <= 600; i++) {
            Check.due("one more sign", house.type(i % 2 == 0 ? 32 : 126), i);
        }
        Check.late("601 signs", house, () -> house.type(32));
        Check.due("600 signs", house.type(0), 600);
        for (int code = 0; code <= 255; code++) {
            long sign = code;
            Chipcardhouse one = new Chipcardhouse();
            if (code == 0 || code >= 32 && code <= 126) {
                Check.due("the code " + code, one.type(sign), code == 0 ? 0 : 1);
            } else if (code == 31 || code == 127 || code == 128 || code % 16 == 1 || code == 255) {
                Check.bad("the code " + code, one, () -> one.type(sign));
            }
        }
    }

    private static void grammar() {
        Bound.term(7, 3, "text = { command \";\" }");
        faultIs("", -1);
        faultIs("day;", -1);
        faultIs("day;day;", -1);
        faultIs("day;".repeat(150), -1);
        faultIs("day;".repeat(149) + "day", 599);
        faultIs(";", 0);
        faultIs("day;;", 4);
        faultIs("day day;", 4);
        faultIs("day;7", 4);
    }

    private static void numbersOfCommands() {
        Bound.term(7, 3, "command = \"account\" n | \"shop\" n n | \"card\" n n n n | \"pay\" n n n ( n | \"touch\" )");
        String[] words = {"account", "shop", "card", "pay", "send", "back", "wait", "fault", "open", "close", "house",
            "tell", "stolen", "freeze", "day", "dispute"};
        int[] numbers = {1, 2, 4, 4, 1, 3, 1, 4, 0, 0, 3, 2, 1, 1, 0, 1};
        for (int i = 0; i < words.length; i++) {
            String text = words[i] + " 1".repeat(numbers[i]);
            faultIs(text + ";", -1);
            faultIs(text + " 1;", text.length() + 1);
            faultIs(text, text.length());
            faultIs(words[i] + "x" + " 1".repeat(numbers[i]) + ";", 0);
            faultIs(words[i].substring(1) + " 1".repeat(numbers[i]) + ";", 0);
            faultIs(words[i].substring(0, words[i].length() - 1) + " 1".repeat(numbers[i]) + ";", 0);
            for (int less = 0; less < numbers[i]; less++) {
                String few = words[i] + " 1".repeat(less);
                faultIs(few + ";", few.length());
                faultIs(few + " touch;", words[i].equals("pay") && less == 3 ? -1 : few.length() + 1);
                faultIs(few + " day;", few.length() + 1);
            }
        }
        faultIs("pay 1 1 1 touch 1;", 16);
        faultIs("pay 1 1 1 touch touch;", 16);
        faultIs("touch;", 0);
    }

    private static void digits() {
        Bound.term(7, 3, "n is a number: a row of digits, at most 7");
        faultIs("account 0;", -1);
        faultIs("account 9;", -1);
        faultIs("account 1234567;", -1);
        faultIs("account 12345678;", 8);
        faultIs("account 0000000;", -1);
        faultIs("account 00000000;", 8);
        faultIs("account 1;account 123456789012;", 18);
        Chipcardhouse house = houseOf("account 0000007;account 9000000;account 9000001;account 9999999;");
        Check.due("two are not left out", house.play(), 2);
        Check.due("7", house.accountAt(0, 0), 7);
        Check.due("9000000", house.accountAt(1, 0), 9000000);
    }

    private static void words() {
        Bound.term(7, 3, "A word is a row of letters a to z, as long as possible.");
        faultIs("dayday;", 0);
        faultIs("daya;", 0);
        faultIs("dayz;", 0);
        faultIs("day`;", 3);
        faultIs("day{;", 3);
        faultIs("pay 1 1 1 touchz;", 10);
        faultIs("pay 1 1 1 touc;", 10);
        faultIs("Day;", 0);
        faultIs("dAy;", 0);
        faultIs("openclose;", 0);
    }

    private static void blanks() {
        Bound.term(7, 3, "Blanks can stand between all of these; where two words, or two numbers, follow one another, at least "
                + "one blank stands between them.");
        faultIs(" ", -1);
        faultIs(FULL, -1);
        faultIs("  day  ;  day  ;  ", -1);
        faultIs("account1;", -1);
        faultIs("pay1 1 1touch;", -1);
        faultIs("pay11 1touch;", 7);
        faultIs("shop11;", 6);
        faultIs("shop1 1;", -1);
        faultIs("shop   1   1   ;", -1);
        faultIs("da y;", 0);
        faultIs("account 1 2;", 10);
    }

    private static void places() {
        Bound.term(7, 3, "A fault of a text is the place, from 0, of the first token that can't stand where it stands (a number "
                + "of more than 7 digits can't stand anywhere; a sign that begins no token is one)");
        faultIs("x", 0);
        faultIs(" x", 1);
        faultIs("7", 0);
        faultIs("12345678", 0);
        faultIs("day 12345678;", 4);
        faultIs("day;x;y;", 4);
        faultIs("account -1;", 8);
        faultIs("account 1-;", 9);
        faultIs("account 1.5;", 9);
        faultIs("~", 0);
        faultIs("!day;", 0);
        faultIs("day:", 3);
        faultIs("day<", 3);
        faultIs("account /;", 8);
        faultIs("account :;", 8);
        faultIs("pay 0 0 x touch;", 8);
        faultIs(" ".repeat(599) + "x", 599);
    }

    private static void endsTooEarly() {
        Bound.term(7, 3, "or its length if it ends too early");
        faultIs("day", 3);
        faultIs("day ", 4);
        faultIs("account", 7);
        faultIs("account 1", 9);
        faultIs("pay 0 0 1", 9);
        faultIs("pay 0 0 1 ", 10);
        faultIs("pay 0 0 1 touch", 15);
        faultIs("day;account", 11);
        faultIs(" ".repeat(597) + "day", 600);
        faultIs("day" + " ".repeat(597), 600);
    }

    private static void commandsAreCalls() {
        Bound.term(7, 4, "Each command is the call with the same name, with its numbers in their order");
        Chipcardhouse house = houseOf("account 9;account 8000;shop 1 2;shop 700 3;card 1 5 6 7000;card 1 9 8 700;");
        Check.due("six", house.play(), 6);
        Check.due("the balance", house.accountAt(1, 0), 8000);
        Check.due("the greatest count of card 0", house.cardAt(0, 6), 6);
        Check.due("of card 1", house.cardAt(1, 6), 8);
        Check.type(house, "pay 1 1 700 9;pay 1 1 1 touch;pay 0 1 20 touch;pay 1 1 300 8;");
        Check.due("four", house.play(), 4);
        int[][] due = {{0, 1, 1, 700}, {1, 1, 1, 1}, {1, 0, 1, 20}};
        for (int i = 0; i < 3; i++) {
            for (int what = 0; what < 4; what++) {
                Check.due("payment " + i + ": " + what, house.paymentAt(i, what), due[i][what]);
            }
        }
        Check.due("a wrong PIN", house.cardAt(1, 1), 2);
        Check.due("touches of card 1", house.cardAt(1, 2), 1);
        sendBackAndDispute(house);
        theOthers(house);
    }

    private static void sendBackAndDispute(Chipcardhouse house) {
        Check.type(house, "wait 2;send 1;back 1 2 5;wait 1;dispute 2;dispute 0;send 0;");
        Check.due("one is left out", house.play(), 6);
        Check.due("the tick", house.count(0), 3);
        Check.due("three are POSTED", house.count(6), 3);
        Check.due("5 and 15 went back", house.knows(2, 6), 0);
        Check.due("of the first nothing", house.knows(0, 6), 700);
        Check.due("the balance", house.accountAt(1, 0), 7299);
    }

    private static void theOthers(Chipcardhouse house) {
        Check.type(house, "house 650 40 3;fault 1 1 2 9;tell 1 3;tell 1 1;stolen 1;freeze 0;day;close;");
        Check.due("eight", house.play(), 8);
        Check.due("closed", house.count(9), 0);
        Check.due("the day", house.count(1), 1);
        Check.due("late ones down", house.faults(1, 1, 2, 0), 9);
        Check.due("two wait", house.tells(1, 1), 2);
        Check.due("stolen", house.stolen(1), true);
        Check.due("frozen", house.freeze(0, false), true);
        Check.due("the other is not", house.freeze(1, false), false);
        Check.due("the fee", house.setHouse(650, 40, 3), 40);
        Check.type(house, "open;");
        Check.due("one", house.play(), 1);
        Check.due("open", house.count(9), 1);
    }

    /** Three accounts, shops and cards, and four payments by touching that are POSTED. */
    private static Chipcardhouse threeOfEach() {
        Chipcardhouse house = new Chipcardhouse();
        for (int i = 0; i < 3; i++) {
            house.account(1000);
            house.shop(500, 0);
            house.card(i, 7, 9, 5000);
        }
        int[][] all = {{0, 1}, {1, 2}, {2, 0}, {2, 2}};
        for (int[] one : all) {
            house.pay(one[0], one[1], 100, Chipcardhouse.NONE);
        }
        for (int i = 0; i < 3; i++) {
            house.sends(i);
        }
        house.passes(1);
        return house;
    }

    /** A house in which one command is done, or left out. */
    private static Chipcardhouse played(String command, int done) {
        Chipcardhouse house = threeOfEach();
        Check.type(house, command);
        Check.due("'" + command + "' is done", house.play(), done);
        return house;
    }

    private static void numbersInTheirOrder() {
        Bound.term(7, 4, "with its numbers in their order");
        Chipcardhouse back = played("back 2 3 7;wait 1;", 2);
        for (int i = 0; i < 4; i++) {
            Check.due("left of payment " + i, back.knows(i, 6), i == 3 ? 93 : 100);
        }
        played("back 2 3 0;", 0);
        played("back 2 4 7;", 0);
        played("back 3 3 7;", 0);
        Check.due("wait 3", played("wait 3;", 1).count(0), 4);
        Chipcardhouse stolen = played("stolen 2;", 1);
        Check.due("card 2 is stolen", stolen.stolen(2), true);
        Check.due("card 0 is not", stolen.stolen(0), false);
        played("stolen 3;", 0);
        Check.due("account 2 is frozen", played("freeze 2;", 1).accountAt(2, 3), 1);
        played("freeze 3;", 0);
        Chipcardhouse dispute = played("dispute 3;", 1);
        Check.due("payment 3 is disputed", dispute.knows(3, 6), 0);
        Check.due("payment 0 is not", dispute.knows(0, 6), 100);
        played("dispute 4;", 0);
        Chipcardhouse fault = played("fault 2 0 1 9;", 1);
        Check.due("shop 2, up, doubled", fault.faults(2, 0, 1, 0), 9);
        played("fault 2 2 1 9;", 0);
        Chipcardhouse tell = played("tell 1 3;", 1);
        Check.due("3 is told to card 1", tell.tells(1, 3), 1);
        Check.due("send 2", played("send 2;", 1).shopAt(2, 3), 2);
        numbersOfHouse();
    }

    private static void numbersOfHouse() {
        Chipcardhouse house = played("house 650 40 3;close;", 2);
        house.pay(0, 0, 651, 7);
        house.pay(1, 0, 650, 7);
        house.passes(2);
        Check.due("two ticks", house.count(8), 0);
        house.passes(1);
        Check.due("three ticks: 650 is granted alone", house.count(8), 1);
        house.passes(3);
        Check.due("651 is not", house.paymentAt(4, 7), 8);
        Check.due("the fee", house.setHouse(0, 0, 1), 40);
    }

    private static void constant() {
        Bound.term(7, 4, "The constants: `NONE = -1`: There is none.");
        Check.due("NONE", Chipcardhouse.NONE, -1);
    }

    // ---- promise 2

    private static void promisesOfType() {
        Bound.promise(2, "- `signs`: the number");
        Chipcardhouse house = new Chipcardhouse();
        Check.due("0", house.type(0), 0);
        Check.due("the least of all 8 bytes", house.type(0x2020202020202020L), 8);
        Check.due("the greatest of all 8 bytes", house.type(0x7e7e7e7e7e7e7e7eL), 16);
        for (long bad : new long[] {-1, Long.MIN_VALUE, Long.MAX_VALUE, 1, 0x2020202020202020L - 1}) {
            Check.bad("the number " + bad, house, () -> house.type(bad));
        }
        Bound.promise(2, "Puts signs behind the text: the bytes of a number, the highest one first, without those that are 0.");
        Chipcardhouse order = new Chipcardhouse();
        order.type(0x6400000000000061L);
        order.type(0x0000790000000000L);
        order.type(0x3b00000000000000L);
        Check.due("day; from its bytes", order.fault(), -1);
        Check.due("a command", order.play(), 1);
        Bound.promise(2, "Returns the length of the text.");
        Check.due("empty again", order.type(0), 0);
        Check.due("one", order.type(100), 1);
        Check.due("none more", order.type(0), 1);
        Check.due("eight more", order.type(0x2020202020202020L), 9);
        Bound.promise(2, "Throws `IllegalArgumentException` if a byte is neither 0 nor 32 to 126");
        for (int shift = 0; shift < 64; shift += 8) {
            for (long code : new long[] {1, 31, 127, 128, 255}) {
                long signs = 0x2020202020202020L & ~(255L << shift) | code << shift;
                Check.bad("the code " + code + " at the bits from " + shift, order, () -> order.type(signs));
            }
        }
        typeTooMuch();
    }

    private static void typeTooMuch() {
        Bound.promise(2, "Throws `IllegalStateException` if the text would be longer than 600 signs");
        for (int more = 1; more <= 8; more++) {
            Chipcardhouse house = houseOf(" ".repeat(600 - more));
            long fits = more == 8 ? 0x2020202020202020L : (1L << 8 * more) - 1 & 0x2020202020202020L;
            if (more < 8) {
                Check.late("one sign too much", house, () -> house.type(fits << 8 | 32));
            }
            Check.due("so many fit: " + more, house.type(fits), 600);
            Check.late("none fits", house, () -> house.type(32));
            Check.due("but nothing at all does", house.type(0), 600);
        }
        Chipcardhouse full = houseOf(FULL);
        Check.bad("a bad sign and too much", full, () -> full.type(31));
        Check.due("it is no fault", full.fault(), -1);
        full.play();
        Check.due("emptied it takes signs again", full.type(32), 1);
    }

    // ---- promises 3 and 4

    private static void promisesOfFault() {
        Bound.promise(3, "Returns the fault; NONE if it is a text of section 7 (an empty one is).");
        Chipcardhouse house = new Chipcardhouse();
        Check.due("an empty one", house.fault(), Chipcardhouse.NONE);
        Check.type(house, "day");
        Check.due("it ends too early", house.fault(), 3);
        Check.type(house, ";");
        Check.due("one more sign", house.fault(), Chipcardhouse.NONE);
        Check.type(house, "7");
        Check.due("and one more", house.fault(), 4);
        Bound.promise(3, "`int fault()`: Returns the fault of the text.");
        Check.due("asking again", house.fault(), 4);
        Check.due("the text stays", house.type(0), 5);
        Check.due("nothing is done", house.count(1), 0);
    }

    private static void promisesOfPlay() {
        Bound.promise(4, "Does the commands of the text, one after the other, and empties it.");
        Chipcardhouse house = new Chipcardhouse();
        Check.due("an empty text", house.play(), 0);
        Check.type(house, "account 5;shop 1 0;card 0 1 1 1;pay 0 0 1 1;");
        Check.due("each needs those before it", house.play(), 4);
        Check.due("emptied", house.type(0), 0);
        Check.due("an empty text again", house.play(), 0);
        Check.due("nothing is done again", house.count(2), 1);
        Check.type(house, "day;".repeat(150));
        Check.due("a full text", house.play(), 150);
        Check.due("150 days", house.count(1), 150);
        Check.type(house, FULL);
        Check.due("blanks", house.play(), 0);
        leftOut();
        Bound.promise(4, "Throws `IllegalArgumentException` if the text has a fault; the text is emptied also then");
        for (String text : new String[] {"x", "day;day", "day;x", "day;account 12345678;"}) {
            Chipcardhouse bad = houseOf(text);
            try {
                bad.play();
                Check.due("'" + text + "' is played", true, false);
            } catch (IllegalArgumentException e) {
                Check.due("nothing of '" + text + "' is done", bad.count(1), 0);
            }
            Check.due("it is emptied", bad.type(0), 0);
            Check.due("without a fault", bad.fault(), -1);
            Check.due("and played", bad.play(), 0);
        }
    }

    private static void leftOut() {
        Bound.promise(4, "A command whose call would throw an exception is left out.");
        Chipcardhouse house = Check.house();
        String before = Check.stateOf(house);
        Check.type(house, "account 9000001;shop 50001 0;shop 0 10;card 1 0 0 0;card 0 10000 0 0;card 0 0 10 0;"
                + "card 0 0 0 100001;pay 1 0 1 7;pay 0 1 1 7;pay 0 0 0 7;pay 0 0 100001 7;pay 0 0 1 10000;"
                + "pay 1 0 1 touch;pay 0 0 0 touch;send 1;back 0 0 1;back 1 0 1;wait 0;wait 201;");
        Check.due("none is done", house.play(), 0);
        Check.type(house, "fault 1 0 0 0;fault 0 2 0 0;fault 0 0 3 0;fault 0 0 0 101;house 20001 0 1;house 0 501 1;"
                + "house 0 0 6;house 0 0 0;tell 1 1;tell 0 0;tell 0 4;stolen 1;freeze 1;dispute 0;");
        Check.due("none is done", house.play(), 0);
        Check.due("nothing is changed", before.equals(Check.stateOf(house)), true);
        Check.type(house, "account 1;account 2;account 3;account 4;account 5;account 6;account 7;account 8;shop 1 1;");
        Check.due("the eighth and what is behind it: one is left out", house.play(), 8);
        Check.due("eight", house.count(2), 8);
        Check.due("what is behind it is done", house.count(3), 2);
        Bound.promise(4, "Returns how many commands were not left out (a payment that is REFUSED counts).");
        Check.type(house, "pay 0 0 1 8;pay 0 0 1 8;pay 0 0 1 8;pay 0 0 1 7;pay 0 0 2501 touch;pay 0 0 0 7;");
        Check.due("-3, -3, -3, -2 and -4 count", house.play(), 5);
        Check.due("no payment", house.count(5), 0);
        Check.due("no try", house.cardAt(0, 1), 0);
        Check.type(house, "pay 0 0 5 touch;dispute 0;freeze 0;freeze 0;open;close;close;stolen 0;tell 0 1;tell 0 1;");
        Check.due("a dispute that is refused does not", house.play(), 9);
    }
}
