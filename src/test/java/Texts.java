/** Puts texts into an object, eight bytes a call. */
final class Texts {
    private Texts() {
    }

    static int put(ThreeOffers x, String text) {
        int answer = 0;
        for (int from = 0; from < text.length(); from += 8) {
            String part = text.substring(from, Math.min(from + 8, text.length()));
            answer = x.write(bytes(part), part.length());
        }
        return answer;
    }

    static long bytes(String part) {
        long bytes = 0;
        for (int i = 0; i < part.length(); i++) bytes |= (long) (part.charAt(i) & 255) << 8 * i;
        return bytes;
    }

    static int fault(String text) {
        ThreeOffers x = new ThreeOffers();
        put(x, text);
        return x.fault();
    }

    /** A new object whose rules are told by the text. */
    static ThreeOffers ruled(String text) {
        ThreeOffers x = new ThreeOffers();
        put(x, text);
        x.rules();
        return x;
    }
}
