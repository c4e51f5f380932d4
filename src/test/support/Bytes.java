import java.util.BitSet;

/** Sets of bytes, and those that a glob of one piece reads. */
final class Bytes {
    private Bytes() {
    }

    /** The paths of one byte that the glob matches; null if it is no rule. */
    static BitSet readBy(String glob) {
        GlobProfile x = new GlobProfile();
        if (Typist.allow(x, glob, 1) != 0 || x.compile(120) < 0) {
            return null;
        }
        int[] gives = new int[x.states()];
        for (int s = 0; s < gives.length; s++) {
            gives[s] = x.gives(s);
        }
        BitSet bytes = new BitSet();
        for (int b = 0; b < 256; b++) {
            bytes.set(b, gives[x.next(0, b)] == 1);
        }
        return bytes;
    }

    static BitSet of(int... some) {
        BitSet bytes = new BitSet();
        for (int b : some) {
            bytes.set(b);
        }
        return bytes;
    }

    static BitSet range(int least, int greatest) {
        BitSet bytes = new BitSet();
        bytes.set(least, greatest + 1);
        return bytes;
    }

    static BitSet allBut(BitSet some) {
        BitSet bytes = range(0, 255);
        bytes.andNot(some);
        return bytes;
    }

    static BitSet without(BitSet some, int b) {
        BitSet bytes = (BitSet) some.clone();
        bytes.clear(b);
        return bytes;
    }

    static BitSet both(BitSet some, BitSet others) {
        BitSet bytes = (BitSet) some.clone();
        bytes.or(others);
        return bytes;
    }
}
