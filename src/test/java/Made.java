/** Objects that several tests begin with. */
final class Made {
    /** As many STEPS, without CHOICES. */
    static StateTables steps(int n) {
        StateTables x = new StateTables();
        for (int s = 0; s < n; s++) {
            x.step();
        }
        return x;
    }

    /** A STEP for each number, with as many CHOICES, all of COST 0 and without USE. */
    static StateTables sized(int... sizes) {
        StateTables x = steps(sizes.length);
        for (int s = 0; s < sizes.length; s++) {
            for (int c = 0; c < sizes[s]; c++) {
                x.choice(s, 0, 0, 0);
            }
        }
        return x;
    }

    /** 12 STEPS with 6 CHOICES each: as many as there can be. */
    static StateTables full() {
        return sized(6, 6, 6, 6, 6, 6, 6, 6, 6, 6, 6, 6);
    }

    /**
     * Two STEPS. LAYER 1: (0, 2) by CHOICE 2, (1, 0) by 0, (1, 0) by 1, of COST -2, 4, 6.
     * LAYER 2: (0, 4) by 0, (1, 2) by 0, (1, 2) by 1, (2, 0) by 1, of COST 8, 14, 18, 24.
     */
    static StateTables example() {
        StateTables x = steps(2);
        x.choice(0, 4, 1, 0);
        x.choice(0, 6, 1, 0);
        x.choice(0, -2, 0, 2);
        x.choice(1, 10, 0, 2);
        x.choice(1, 20, 1, 0);
        return x;
    }

    /** LAYERS of 1, 5, 20, 80 and 400 NODES; MOST 20 of each RESOURCE, of which 19 and 3 are used. */
    static StateTables wide() {
        StateTables x = steps(4);
        for (int c = 0; c < 5; c++) {
            x.choice(0, c, c, 0);
        }
        for (int c = 0; c < 4; c++) {
            x.choice(1, c, 5 * c, 0);
            x.choice(2, c, 0, c);
        }
        for (int c = 0; c < 5; c++) {
            x.choice(3, c, 0, 0);
        }
        x.resource(0, 0, 20);
        x.resource(1, 0, 20);
        return x;
    }

    /** As wide(), with one CHOICE more that (0, 0) alone has room for: 401 NODES in LAYER 4. */
    static StateTables tooWide() {
        StateTables x = wide();
        x.choice(3, 0, 20, 20);
        return x;
    }
}
