/** Studies at the document's bounds. None of them takes more than 24 calls to make. */
final class Studies {
    private Studies() {
    }

    /** A specimen for each pair, told as 10 times the obverse die plus the reverse die, with fresh dies. */
    static DieStudy of(int... pairs) {
        DieStudy x = new DieStudy();
        for (int pair : pairs) {
            x.addSpecimen(pair / 10, pair % 10, 0, 0);
        }
        return x;
    }

    static DieStudy ofOneCouple(int specimens) {
        DieStudy x = new DieStudy();
        for (int i = 0; i < specimens; i++) {
            x.addSpecimen(7, 3, 0, 0);
        }
        return x;
    }

    /** n specimens of d obverse dies: the last die has all that the others, with one each, leave to it. */
    static DieStudy ofNumbers(int n, int d) {
        DieStudy x = new DieStudy();
        for (int i = 0; i < n; i++) {
            x.addSpecimen(Math.min(i, d - 1), 0, 0, 0);
        }
        return x;
    }

    /** 24 couples of 4 obverse with 6 reverse dies, each earlier than the next on a way to and fro. */
    static DieStudy toAndFro() {
        DieStudy x = new DieStudy();
        for (int i = 0; i < 24; i++) {
            int couple = coupleToAndFro(i);
            x.addSpecimen(couple / 6, couple % 6, i % 6, i / 6);
        }
        return x;
    }

    /** The number of the couple that is the i-th one on the way to and fro. */
    static int coupleToAndFro(int i) {
        int row = i / 6;
        return row % 2 == 0 ? i : 6 * row + 5 - i % 6;
    }

    /** The first couples of a ring of 20 through all dies, in which each is earlier than the next one. */
    static DieStudy ringOfAllDies(int couples) {
        DieStudy x = new DieStudy();
        for (int i = 0; i < couples; i++) {
            int obverse = i / 2;
            int reverse = (i + 1) / 2 % 10;
            x.addSpecimen(obverse, reverse, i % 2, 1 - i % 2);
        }
        return x;
    }

    /** Four couples of the document's second example: the least ring that contradicts itself. */
    static DieStudy ringOfFour() {
        DieStudy x = new DieStudy();
        x.addSpecimen(0, 0, 0, 2);
        x.addSpecimen(0, 1, 1, 0);
        x.addSpecimen(1, 1, 0, 1);
        x.addSpecimen(1, 0, 1, 0);
        return x;
    }
}
