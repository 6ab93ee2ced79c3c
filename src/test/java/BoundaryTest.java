import java.util.LinkedHashMap;
import java.util.List;
import java.util.Map;

/**
 * Each sentence of the document that names a boundary case: the last value that is allowed and the first that is not, the
 * thing empty, with one in it, full, and one more, and a refused call that changes nothing.
 */
public final class BoundaryTest {
    public static void main(String[] args) {
        BoundsOfHouse.run();
        BoundsOfPayments.run();
        BoundsOfLines.run();
        BoundsOfIssuer.run();
        BoundsOfTexts.run();
        BoundsOfQuestions.run();
        Bound.lookForAll(withoutBoundary());
        Check.finish("BoundaryTest");
    }

    /** The sentences that name no boundary of their own, or one that no run of calls can come to. */
    private static Map<String, List<String>> withoutBoundary() {
        Map<String, List<String>> all = new LinkedHashMap<>();
        all.put("section 0", List.of("Payments by chip cards, from the card to its issuer"));
        all.put("section 1", List.of("Amounts are whole coins."));
        all.put("section 2", List.of("(It stands for a cipher"));
        all.put("section 4", List.of("DOWN go ANSWER"));
        // Counters and stamps are right in all that terminals and thieves send, so that each note is something.
        all.put("section 5", List.of("Otherwise the note is nothing."));
        all.put("section 7", List.of("Ahead of the calls `type`", "Ahead of the calls `account`", "Ahead of the calls `pay`",
                "Ahead of the calls `passes`", "Ahead of the calls `tells`", "Ahead of the calls `cardAt`"));
        // What these calls answer stands behind "what"; it is there that the boundaries are.
        all.put("promise 21", List.of("Returns something about a card."));
        all.put("promise 23", List.of("Returns something that the issuer knows of a number."));
        all.put("promise 24", List.of("Returns something about an account."));
        all.put("promise 25", List.of("Returns something about a shop."));
        all.put("promise 26", List.of("Returns a count."));
        all.put("promise 30", List.of("Returns a sum by which houses can be compared."));
        return all;
    }
}
