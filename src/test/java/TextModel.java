import java.util.ArrayList;
import java.util.HashSet;
import java.util.List;
import java.util.Map;
import java.util.Set;
import java.util.regex.Matcher;
import java.util.regex.Pattern;

/** THE TEXT of an ORDER: cut into words, NUMBERS and signs first, then held against the clauses' patterns. */
final class TextModel {
    private record Piece(int at, String text) {
        boolean isWord() {
            return text.matches("[a-z]+");
        }

        boolean isNumber() {
            return text.matches("[0-9]+");
        }
    }

    private static final class Fault extends RuntimeException {
        private static final long serialVersionUID = 1;
        final int number;
        final int at;

        Fault(int number, int at) {
            this.number = number;
            this.at = at;
        }
    }

    // #a-b is a NUMBER within these bounds, # an ORDER's; @ the keys
    private static final Map<String, String> PATTERNS = Map.of("next", "@ ;", "ways", "#1-3 ;", "hold", "#0-60 ;",
            "grace", "#0-60 ;", "told", "#0-99 ;", "charge", "#0-999 to #1-999 ;",
            "night", "#0-479 to #-479 by #0-100 ;", "back", "#0-100 ;", "strike", "# ;");
    private static final Set<String> KEYS = Set.of("fixed", "first", "booked", "short", "far");

    final List<RoomModel.Clause> clauses = new ArrayList<>();
    int fault = 0;
    int faultAt = -1;
    private final List<Piece> pieces = new ArrayList<>();
    private final int orders;
    private int next = 0;

    TextModel(List<Integer> bytes, int ordersNow) {
        orders = ordersNow;
        StringBuilder b = new StringBuilder();
        bytes.forEach(x -> b.append((char) (int) x));
        Matcher m = Pattern.compile("[a-z]+|[0-9]+|[^ ]", Pattern.DOTALL).matcher(b);
        while (m.find()) {
            pieces.add(new Piece(m.start(), m.group()));
        }
        pieces.add(new Piece(b.length(), ""));
        try {
            while (!pieces.get(next).text().isEmpty()) {
                clause();
            }
        } catch (Fault f) {
            fault = f.number;
            faultAt = f.at;
        }
    }

    private void clause() {
        Piece word = pieces.get(next++);
        if (!PATTERNS.containsKey(word.text())) {
            throw new Fault(1, word.at());
        }
        if (clauses.size() == 10) {
            throw new Fault(5, word.at());
        }
        List<String> keys = new ArrayList<>();
        List<Integer> numbers = new ArrayList<>();
        for (String part : PATTERNS.get(word.text()).split(" ")) {
            if (part.equals("@")) {
                keys(keys);
            } else if (part.startsWith("#")) {
                numbers.add(number(part.substring(1), numbers));
            } else if (pieces.get(next).text().equals(part)) {
                next++;
            } else {
                throw new Fault(1, pieces.get(next).at());
            }
        }
        clauses.add(new RoomModel.Clause(word.text(), keys, numbers.stream().mapToInt(x -> x).toArray()));
    }

    private void keys(List<String> keys) {
        Set<String> seen = new HashSet<>();
        while (true) {
            Piece key = pieces.get(next++);
            if (!KEYS.contains(key.text())) {
                throw new Fault(1, key.at());
            }
            if (!seen.add(key.text())) {
                throw new Fault(4, key.at());
            }
            keys.add(key.text());
            if (!pieces.get(next).text().equals(",")) {
                return;
            }
            next++;
        }
    }

    private int number(String bounds, List<Integer> before) {
        Piece p = pieces.get(next++);
        if (!p.isNumber()) {
            throw new Fault(1, p.at());
        }
        if (p.text().length() > 4) {
            throw new Fault(2, p.at());
        }
        int n = Integer.parseInt(p.text());
        if (bounds.isEmpty()) {
            if (n >= orders) {
                throw new Fault(3, p.at());
            }
            return n;
        }
        String[] b = bounds.split("-");
        int least = b[0].isEmpty() ? before.get(before.size() - 1) : Integer.parseInt(b[0]);
        if (n < least || n > Integer.parseInt(b[1])) {
            throw new Fault(2, p.at());
        }
        return n;
    }
}
