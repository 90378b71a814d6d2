/** Counts the calls whose answers are not the ones that are due, and tells them. */
final class Due {

    private static int right = 0;
    private static int wrong = 0;

    private Due() {
    }

    static void is(String call, long got, long want) {
        if (got == want) {
            right++;
        } else {
            wrong++;
            System.out.println(call + " answered " + got + ", due is " + want);
        }
    }

    static int wrong() {
        return wrong;
    }

    static void isTrue(String what, boolean holds) {
        is(what, holds ? 1 : 0, 1);
    }

    /** Feeds a text byte by byte, all but the last ones five at a time: what the last feed answered. */
    static int feed(BiteFirst x, String all) {
        int answer = x.count(5);
        for (int k = 0; k < all.length(); k += 5) {
            int n = Math.min(5, all.length() - k);
            int[] b = new int[5];
            for (int j = 0; j < n; j++) {
                b[j] = all.charAt(k + j);
            }
            answer = x.feed(n, b[0], b[1], b[2], b[3], b[4]);
        }
        return answer;
    }

    static int text(BiteFirst x, String all) {
        feed(x, all);
        return x.text();
    }

    /** Makes a text of three parts the law. */
    static void law(BiteFirst x, String pays, String likes, String waits) {
        int t = text(x, "pays " + pays + ";likes " + likes + ";waits " + waits + ";");
        if (t < 0 || x.force(t) < 0) {
            wrong++;
            System.out.println("no law: pays " + pays + " likes " + likes + " waits " + waits + ": " + t);
        }
    }

    /** Makes a sheet a row of such numbers. */
    static void row(BiteFirst x, int s, int sort, int... numbers) {
        x.sheet(s, sort, numbers.length);
        for (int i = 0; i < numbers.length; i++) {
            x.cell(s, i, numbers[i]);
        }
    }

    static void end(String test) {
        System.out.println(test + ": " + right + " answers as due, " + wrong + " not");
        if (wrong != 0) {
            System.exit(1);
        }
    }
}
