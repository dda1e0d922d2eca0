/** What many tests by sentence begin with. */
final class Given {
    static final int BAD = PlaceRectangles.BAD, STATE = PlaceRectangles.STATE;
    static final int FULL = PlaceRectangles.FULL, NONE = PlaceRectangles.NONE;
    static final int LEAST = Integer.MIN_VALUE, MOST = Integer.MAX_VALUE;

    /**
     * Numbers of no box, axis, turn, part or length: beside what is there, far away, and such as
     * would be a good number again if a product by 3, a shift or a sum wrapped around.
     */
    private static final int[] WILD = {
        -1, -2, -8, -32, 32, 33, 64, 256, 65536, 1 << 30, 1431655766, -1431655765, LEAST, LEAST + 1, MOST - 1, MOST
    };

    private Given() {
    }

    static int[] of(int... numbers) {
        return numbers;
    }

    /** Wild numbers, and those just below and above what is good. */
    static int[] wild(int tooSmall, int tooLarge) {
        int[] all = java.util.Arrays.copyOf(WILD, WILD.length + 2);
        all[WILD.length] = tooSmall;
        all[WILD.length + 1] = tooLarge;
        return all;
    }

    static PlaceRectangles bin(int x, int y, int z, int[]... boxes) {
        PlaceRectangles made = new PlaceRectangles();
        made.bin(x, y, z);
        for (int[] box : boxes) {
            made.box(box[0], box[1], box[2]);
        }
        return made;
    }

    /** The bin of 10 with boxes that are laid: three sides and three coordinates each. */
    static PlaceRectangles laid(int[]... boxes) {
        PlaceRectangles made = bin(10, 10, 10, boxes);
        for (int k = 0; k < boxes.length; k++) {
            made.lay(k, 0, boxes[k][3], boxes[k][4], boxes[k][5]);
        }
        return made;
    }

    /** So many boxes with the same sides. */
    static int[][] times(int count, int a, int b, int c) {
        int[][] boxes = new int[count][];
        for (int k = 0; k < count; k++) {
            boxes[k] = of(a, b, c);
        }
        return boxes;
    }

    /** The bin's length as dual() shows it: the first function takes numbers up to it alone. */
    static int length(PlaceRectangles x, int axis) {
        for (int n = 20; n > 0; n--) {
            if (x.dual(axis, 0, n) != BAD) {
                return n;
            }
        }
        return 0;
    }
}
