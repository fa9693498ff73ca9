/** What the tests share: answers held against those that are due, and texts fed in one go. */
final class Check {
    private static int wrong = 0;
    private static int done = 0;

    private Check() { }

    static void due(String what, long got, long want) {
        done++;
        if (got != want) {
            wrong++;
            System.out.println(what + " answered " + got + ", due is " + want);
        }
    }

    static void due(String what, boolean got, boolean want) {
        due(what, got ? 1 : 0, want ? 1 : 0);
    }

    /** Puts the text on the tape, and nothing else. */
    static void put(RumourRent town, String text) {
        town.end(0);
        for (int i = 0; i < text.length(); i += 20) {
            int[] five = new int[5];
            for (int j = 0; j < 20; j++) {
                int sign = i + j < text.length() ? text.charAt(i + j) : 0;
                five[j / 4] = five[j / 4] << 8 | sign;
            }
            town.feed(five[0], five[1], five[2], five[3], five[4]);
        }
        town.end(text.length());
    }

    static int read(RumourRent town, String text) {
        put(town, text);
        return town.text();
    }

    /** A town on a day; nothing has been told in it yet. */
    static RumourRent onDay(int day) {
        RumourRent town = new RumourRent();
        for (int left = day; left > 0; left -= Math.min(left, 60)) {
            town.day(Math.min(left, 60));
        }
        return town;
    }

    /** Tells so many rumours that aren't true, with empty purses. */
    static void rumours(RumourRent town, int count) {
        for (int i = 0; i < count; i++) {
            town.rumour(0, 0);
        }
    }

    /** A town with roads, of each the two houses that it joins. */
    static RumourRent withRoads(int... ends) {
        RumourRent town = new RumourRent();
        for (int i = 0; i + 1 < ends.length; i += 2) {
            town.road(ends[i], ends[i + 1]);
        }
        return town;
    }

    static void finish(String name) {
        System.out.println(name + ": " + done + " answers, " + wrong + " not as due");
        if (wrong != 0) {
            System.exit(1);
        }
    }
}
