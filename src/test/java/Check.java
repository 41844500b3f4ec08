/** What the tests share: comparing, counting what is wrong, and showing a picture. */
final class Check {
    private static int wrong = 0;

    private Check() {
    }

    static void same(String what, long got, long due) {
        if (got != due) {
            fail(what + ": answered " + got + ", due is " + due);
        }
    }

    static void same(String what, boolean got, boolean due) {
        same(what, Boolean.toString(got), Boolean.toString(due));
    }

    static void same(String what, String got, String due) {
        if (!got.equals(due)) {
            fail(what + ": answered " + got + ", due is " + due);
        }
    }

    static void fail(String text) {
        wrong++;
        System.out.println(text);
    }

    /** The call throws just this, and the picture is after it what it was before. */
    static void refuses(String what, LocalBounds picture, Class<?> due, Runnable call) {
        String before = state(picture);
        same(what + " throws", thrownBy(call), due.getSimpleName());
        same(what + " changes nothing", state(picture), before);
    }

    /** The name of what the call throws, or "nothing". */
    static String thrownBy(Runnable call) {
        try {
            call.run();
        } catch (RuntimeException e) {
            return e.getClass().getSimpleName();
        }
        return "nothing";
    }

    /** All that can be seen of a picture. */
    static String state(LocalBounds picture) {
        StringBuilder text = new StringBuilder(result(picture));
        for (int y = 0; y < picture.told(1); y++) {
            for (int x = 0; x < picture.told(0); x++) {
                text.append(' ').append(picture.sum(x, y, 1, 1, false));
            }
        }
        text.append(" rest ").append(picture.rest());
        return text.toString();
    }

    /** The result, row by row: # is black, and / ends a row. */
    static String result(LocalBounds picture) {
        StringBuilder text = new StringBuilder();
        for (int y = 0; y < picture.told(1); y++) {
            if (y > 0) {
                text.append('/');
            }
            for (int x = 0; x < picture.told(0); x++) {
                text.append(picture.at(x, y) ? '#' : '.');
            }
        }
        return text.toString();
    }

    static LocalBounds picture(int width, int... samples) {
        LocalBounds picture = new LocalBounds(width, samples.length / width);
        for (int i = 0; i < samples.length; i++) {
            picture.put(i % width, i / width, samples[i]);
        }
        return picture;
    }

    /** A picture whose result is this one (# black), made of samples 0 and 255. */
    static LocalBounds withResult(String rows) {
        String[] row = rows.split("/");
        LocalBounds picture = new LocalBounds(row[0].length(), row.length);
        for (int y = 0; y < row.length; y++) {
            for (int x = 0; x < row[y].length(); x++) {
                picture.put(x, y, row[y].charAt(x) == '#' ? 0 : 255);
            }
        }
        picture.ordered(1);
        same("the result to begin with", result(picture), rows);
        return picture;
    }

    static void end() {
        System.out.println(wrong == 0 ? "all answers are as due" : wrong + " answers are not as due");
        if (wrong != 0) {
            System.exit(1);
        }
    }
}
