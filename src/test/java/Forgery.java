/** A block of the file that is damaged and has a right sum nevertheless. */
final class Forgery {
    private final EventLog x;
    private final int from;
    private final int[] image = new int[256];

    /** The block as it is: no other hand has damaged what is behind its events. */
    Forgery(EventLog x, int block) {
        this.x = x;
        from = 256 * block;
        int known = 14 + Math.min(238, 256 * x.byteOf(from + 12) + x.byteOf(from + 13));
        for (int i = 0; i < 256; i++) {
            image[i] = i < known || i >= 252 ? x.byteOf(from + i) : 0;
        }
    }

    int sum() {
        int s = 0;
        for (int i = 0; i < 252; i++) {
            s = s * 31 + image[i];
        }
        return s;
    }

    /** Makes a byte another one, and the sum right again. */
    Forgery put(int i, int b) {
        damage(i, b);
        return mendSum();
    }

    /** Makes the events other ones, and their count and the sum right again. */
    Forgery putEvents(int... events) {
        damage(12, events.length >> 8);
        damage(13, events.length);
        for (int k = 0; k < 238; k++) {
            damage(14 + k, k < events.length ? events[k] : 0);
        }
        return mendSum();
    }

    Forgery putTime(long time) {
        for (int k = 0; k < 8; k++) {
            damage(4 + k, (int) (time >>> (56 - 8 * k)));
        }
        return mendSum();
    }

    private Forgery mendSum() {
        for (int k = 0; k < 4; k++) {
            damage(252 + k, sum() >>> (24 - 8 * k));
        }
        return this;
    }

    private void damage(int i, int b) {
        if (image[i] != (b & 255)) {
            image[i] = b & 255;
            x.damage(from + i, b);
        }
    }
}
