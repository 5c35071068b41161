import java.nio.charset.StandardCharsets;

/** Feeds texts, filled up with blanks to whole feeds. */
final class Tape {
    private Tape() {
    }

    static int feed(BarberMinutes x, String text) {
        byte[] bytes = text.getBytes(StandardCharsets.ISO_8859_1);
        int answer = x.size(13);
        for (int at = 0; at < bytes.length; at += 20) {
            answer = x.feed(number(bytes, at), number(bytes, at + 4), number(bytes, at + 8),
                number(bytes, at + 12), number(bytes, at + 16));
        }
        return answer;
    }

    private static int number(byte[] bytes, int at) {
        int number = 0;
        for (int i = at; i < at + 4; i++) {
            number = number << 8 | (i < bytes.length ? bytes[i] & 255 : ' ');
        }
        return number;
    }

    static int town(BarberMinutes x, String text) {
        feed(x, text);
        return x.town(text.length());
    }

    static BarberMinutes of(String text) {
        BarberMinutes x = new BarberMinutes();
        int men = town(x, text);
        if (men < 1) {
            throw new IllegalStateException("fault " + x.fault() + " at " + x.where() + " of " + text);
        }
        return x;
    }
}
