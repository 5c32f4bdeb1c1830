import java.util.ArrayList;
import java.util.List;

/** The language of marks as the document's grammar tells it: a recursive reader that makes a tree. */
final class TextModel {
    /** A sign (its byte), or a mark with its parts, its number or both. */
    record Part(int sign, int sort, int number, int place, List<Part> parts) { }

    static final class Fault extends Exception {
        private static final long serialVersionUID = 1;
        final int place;

        Fault(int place) {
            super("place " + place);
            this.place = place;
        }
    }

    private final String bytes;
    private int at = 0;

    private TextModel(String bytes) {
        this.bytes = bytes;
    }

    static List<Part> parse(String bytes) throws Fault {
        TextModel model = new TextModel(bytes);
        List<Part> parts = model.parts("");
        if (model.at < bytes.length()) {
            throw new Fault(model.at);
        }
        return parts;
    }

    private int peek() {
        return at < bytes.length() ? bytes.charAt(at) : -1;
    }

    private void expect(char c) throws Fault {
        if (peek() != c) {
            throw new Fault(at);
        }
        at++;
    }

    private List<Part> parts(String open) throws Fault {
        List<Part> parts = new ArrayList<>();
        for (;;) {
            int c = peek();
            if (c == '{') {
                parts.add(mark(open));
            } else if (c == ' ' || c == '.' || c >= 'a' && c <= 'z') {
                parts.add(new Part(c, 0, 0, at, List.of()));
                at++;
            } else {
                return parts;
            }
        }
    }

    private Part mark(String open) throws Fault {
        int place = at;
        if (open.length() == 4) {
            throw new Fault(place);
        }
        at++;
        int sort = peek();
        if (sort < 0 || "dauhsn".indexOf(sort) < 0) {
            throw new Fault(at);
        }
        if (open.indexOf(sort) >= 0) {
            throw new Fault(place);
        }
        at++;
        int number = 0;
        List<Part> parts = List.of();
        if (sort == 's' || sort == 'n') {
            number = number();
        }
        if (sort == 's') {
            expect(':');
        }
        if (sort != 'n') {
            parts = parts(open + (char) sort);
        }
        expect('}');
        return new Part(0, sort, number, place, parts);
    }

    private int number() throws Fault {
        int from = at;
        while (at - from < 4 && peek() >= '0' && peek() <= '9') {
            at++;
        }
        if (at == from) {
            throw new Fault(at);
        }
        return Integer.parseInt(bytes.substring(from, at));
    }

    static void notes(List<Part> parts, List<Part> into) {
        for (Part part : parts) {
            if (part.sort() == 'n') {
                into.add(part);
            }
            notes(part.parts(), into);
        }
    }

    static String plain(List<Part> parts, int day) {
        StringBuilder out = new StringBuilder();
        for (Part part : parts) {
            if (part.sort() == 0) {
                out.append((char) part.sign());
            } else if (part.sort() != 'd' && part.sort() != 'n' && !(part.sort() == 's' && part.number() > day)) {
                out.append(plain(part.parts(), day));
            }
        }
        return out.toString();
    }

    static String printed(List<Part> parts, int day) {
        StringBuilder out = new StringBuilder();
        for (Part part : parts) {
            String inner = printed(part.parts(), day);
            switch (part.sort()) {
                case 'd' -> out.append('<').append(inner).append('>');
                case 'a' -> out.append('/').append(inner).append('/');
                case 'u' -> out.append('[').append(inner).append(']');
                case 'h' -> out.append('\'').append(inner).append('\'');
                case 's' -> out.append(part.number() > day ? "_" : inner);
                case 'n' -> out.append('(').append(part.number()).append(')');
                default -> out.append((char) part.sign());
            }
        }
        return out.toString();
    }

    static List<String> words(List<Part> parts) {
        List<String> words = new ArrayList<>();
        for (String word : plain(parts, 9999).split("[^a-z]+")) {
            if (!word.isEmpty()) {
                words.add(word);
            }
        }
        return words;
    }

    static int differ(List<String> a, List<String> b) {
        int[][] least = new int[a.size() + 1][b.size() + 1];
        for (int i = 0; i <= a.size(); i++) {
            for (int j = 0; j <= b.size(); j++) {
                int best = i == 0 && j == 0 ? 0 : Integer.MAX_VALUE;
                if (i > 0) {
                    best = Math.min(best, least[i - 1][j] + 1);
                }
                if (j > 0) {
                    best = Math.min(best, least[i][j - 1] + 1);
                }
                if (i > 0 && j > 0) {
                    best = Math.min(best, least[i - 1][j - 1] + (a.get(i - 1).equals(b.get(j - 1)) ? 0 : 1));
                }
                least[i][j] = best;
            }
        }
        return least[a.size()][b.size()];
    }
}
