/** A row of bits that is made piece by piece. */
final class Bits {
    private final StringBuilder row = new StringBuilder();

    /** The n lowest bits of v, the highest first. */
    Bits put(int n, long v) {
        for (int i = n - 1; i >= 0; i--) {
            row.append((v >> i & 1) == 0 ? '0' : '1');
        }
        return this;
    }

    Bits zeros(int n) {
        row.append("0".repeat(n));
        return this;
    }

    Bits put(Bits other) {
        row.append(other.row);
        return this;
    }

    /** A rest as the document codes it with k. */
    Bits rest(int k, long r) {
        long v = r >= 0 ? 2 * r : -2 * r - 1;
        return zeros((int) (v >> k)).put(1, 1).put(k, v);
    }

    Bits align() {
        return zeros((8 - row.length() % 8) % 8);
    }

    int length() {
        return row.length();
    }

    byte[] bytes() {
        byte[] all = new byte[row.length() / 8];
        for (int i = 0; i < all.length; i++) {
            all[i] = (byte) Integer.parseInt(row.substring(8 * i, 8 * i + 8), 2);
        }
        return all;
    }

    /** The check of n bits of the whole bytes from one on, bit by bit as the document says it. */
    int check(int n, int fromByte) {
        int check = 0;
        for (int i = 8 * fromByte; i < row.length(); i++) {
            int turned = (check >> (n - 1) & 1) ^ (row.charAt(i) - '0');
            check = check << 1 & ((1 << n) - 1);
            if (turned == 1) {
                check ^= n == 8 ? 7 : 32773;
            }
        }
        return check;
    }
}
