import java.nio.charset.StandardCharsets;

/** Ways of using an exchange that several tests need. */
final class Use {
    private Use() {
    }

    static void put(WaterExchange x, String text) {
        put(x, text.getBytes(StandardCharsets.ISO_8859_1));
    }

    /** The buffer must be empty before. */
    static void put(WaterExchange x, byte[] bytes) {
        int[] words = new int[5];
        for (int start = 0; start < bytes.length; start += 20) {
            for (int i = 0; i < 5; i++) {
                words[i] = 0;
                for (int k = 0; k < 4; k++) {
                    int at = start + i * 4 + k;
                    words[i] = words[i] << 8 | (at < bytes.length ? bytes[at] & 255 : 0);
                }
            }
            x.append(words[0], words[1], words[2], words[3], words[4]);
        }
        if (!x.truncate(bytes.length)) {
            throw new IllegalStateException("the buffer has no room for a text of " + bytes.length + " bytes");
        }
    }

    static WaterExchange of(String text) {
        WaterExchange x = new WaterExchange();
        put(x, text);
        x.load();
        return x;
    }

    static String formatted(WaterExchange x, int length) {
        StringBuilder text = new StringBuilder();
        for (int i = 0; i < length; i++) {
            text.append((char) x.formattedByte(i));
        }
        return text.toString();
    }

    static String claimsOf(WaterExchange x) {
        return formatted(x, x.formatClaims());
    }

    static String riverOf(WaterExchange x) {
        return formatted(x, x.formatRiver());
    }

    /**
     * Everything that the face tells of what actions can change, and of the text's error and the undo depth.
     * It takes some 150 to 230 calls of the 512 that an object has.
     */
    static String allOf(WaterExchange x) {
        StringBuilder all = new StringBuilder();
        int[] counts = new int[8];
        for (int what = 0; what < 8; what++) {
            counts[what] = x.count(what);
            all.append(" count ").append(counts[what]);
        }
        int claims = x.claims();
        all.append(" errors ").append(x.errorOffset()).append(' ').append(x.errorKind());
        for (int reach = 0; reach < counts[0]; reach++) {
            for (int what = 0; what < 3; what++) {
                all.append(" reach ").append(x.reach(reach, what));
            }
            for (int what = 0; what < 5; what++) {
                all.append(" gauge ").append(x.gauge(reach, what));
            }
        }
        for (int account = 0; account < counts[1]; account++) {
            all.append(" account ").append(x.balance(account)).append(' ').append(x.bank(account));
            all.append(' ').append(x.got(account));
        }
        for (int right = 0; right < counts[2]; right++) {
            for (int what = 0; what < 10; what++) {
                all.append(" right ").append(x.right(right, what));
            }
            all.append(' ').append(x.earned(right)).append(' ').append(x.bySeniority(right));
        }
        for (int lease = 0; lease < counts[3]; lease++) {
            for (int what = 0; what < 6; what++) {
                all.append(" lease ").append(x.leaseField(lease, what));
            }
        }
        for (int claim = 0; claim < claims; claim++) {
            for (int what = 0; what < 8; what++) {
                all.append(" claim ").append(x.claim(claim, what));
            }
        }
        for (int ago = 0; ago < 3; ago++) {
            for (int what = 0; what < 4; what++) {
                all.append(" history ").append(x.history(ago, what));
            }
        }
        all.append(" month ").append(x.call()).append(' ').append(x.dryGauges()).append(' ').append(x.served());
        all.append(' ').append(x.outflow()).append(' ').append(x.meanGot());
        all.append(" sums ").append(x.bankedInAll()).append(' ').append(x.lostInAll());
        all.append(' ').append(x.releasedInAll()).append(" undo ").append(x.undoDepth());
        return all.toString();
    }
}
