import java.util.ArrayList;
import java.util.List;

/**
 * A text without an error, token by token. Each place is spoilt in turn: the text ends there, another
 * token stands there, and each number is taken to its ends and one over them.
 */
final class SpoiltText {
    private static final String[] OTHERS = {"zzz", "a", "box", "tooth", "pin", "unpin", "gap", "bend", "up", "down",
        "mend", "vane", "wind", "tune", "play", "repeat", "7", "99999999999", ";", "(", ")", "-", "A", "\u00ff", "\t"};

    interface Reader {
        /** Reads the text with a new object; without an error the code is 0 and the position -1. */
        void read(String text, int code, int position);
    }

    private static final class Place {
        final String token;
        final int least;
        final int most;
        final List<String> alsoAllowed;

        Place(String token, int least, int most, List<String> alsoAllowed) {
            this.token = token;
            this.least = least;
            this.most = most;
            this.alsoAllowed = alsoAllowed;
        }

        boolean isNumber() {
            return least <= most;
        }
    }

    private final List<Place> places = new ArrayList<>();

    /** A token that is no number; the empty one among the others that are allowed is the end of the text. */
    SpoiltText token(String token, String... alsoAllowed) {
        places.add(new Place(token, 1, 0, List.of(alsoAllowed)));
        return this;
    }

    SpoiltText number(int number, int least, int most) {
        places.add(new Place(String.valueOf(number), least, most, List.of()));
        return this;
    }

    /** The end of the text, and what else could stand there. */
    SpoiltText end(String... alsoAllowed) {
        return token("", alsoAllowed);
    }

    private String before(int place) {
        StringBuilder text = new StringBuilder();
        for (int i = 0; i < place; i++) {
            text.append(places.get(i).token).append(' ');
        }
        return text.toString();
    }

    private String with(int place, String token) {
        StringBuilder text = new StringBuilder(before(place)).append(token);
        for (int i = place + 1; i < places.size(); i++) {
            text.append(' ').append(places.get(i).token);
        }
        return text.toString();
    }

    void wholeText(Reader reader) {
        String text = before(places.size());
        reader.read(text, 0, -1);
        reader.read("\n " + text + "\n", 0, -1);
        reader.read(text.trim(), 0, -1);
    }

    void endsTooEarly(Reader reader) {
        for (int i = 0; i < places.size(); i++) {
            boolean allowed = places.get(i).token.isEmpty() || places.get(i).alsoAllowed.contains("");
            for (String text : new String[] {before(i), before(i).trim(), before(i) + "\n  "}) {
                if (allowed) {
                    reader.read(text, 0, -1);
                } else {
                    reader.read(text, 1, text.length());
                }
            }
        }
    }

    void wrongTokens(Reader reader) {
        for (int i = 0; i < places.size(); i++) {
            Place place = places.get(i);
            for (String other : OTHERS) {
                boolean number = Character.isDigit(other.charAt(0));
                if (!other.equals(place.token) && !place.alsoAllowed.contains(other) && !(number && place.isNumber())) {
                    reader.read(with(i, other), 1, before(i).length());
                }
            }
        }
    }

    void endsOfRanges(Reader reader) {
        for (int i = 0; i < places.size(); i++) {
            Place place = places.get(i);
            if (!place.isNumber()) {
                continue;
            }
            reader.read(with(i, String.valueOf(place.least)), 0, -1);
            reader.read(with(i, String.valueOf(place.most)), 0, -1);
            reader.read(with(i, "000" + place.most), 0, -1);
            int at = before(i).length();
            if (place.least > 0) {
                reader.read(with(i, String.valueOf(place.least - 1)), 2, at);
            }
            reader.read(with(i, String.valueOf(place.most + 1)), 2, at);
            reader.read(with(i, "00" + (place.most + 1)), 2, at);
            for (String over : new String[] {"4294967296", "18446744073709551616"}) {
                // What is left of these numbers in 32 and in 64 bits would be taken.
                String number = new java.math.BigInteger(over).add(java.math.BigInteger.valueOf(place.least)).toString();
                reader.read(with(i, number), 2, at);
            }
        }
    }
}
