/** Puts texts on the tape of a SorryWalk. */
final class Texts {
    private Texts() {
    }

    static void feed(SorryWalk x, String text) {
        for (int i = 0; i < text.length(); i += 20) {
            x.feed(four(text, i), four(text, i + 4), four(text, i + 8), four(text, i + 12), four(text, i + 16));
        }
    }

    private static int four(String text, int i) {
        int v = 0;
        for (int k = 0; k < 4; k++) {
            v = v << 8 | (i + k < text.length() ? text.charAt(i + k) & 255 : 0);
        }
        return v;
    }

    static int land(SorryWalk x, String text) {
        feed(x, text);
        return x.land(text.length());
    }

    static int tales(SorryWalk x, String text) {
        feed(x, text);
        return x.tales(text.length());
    }

    static SorryWalk of(String land) {
        SorryWalk x = new SorryWalk();
        if (land(x, land) < 0) {
            throw new IllegalArgumentException("no LAND: " + land + ", FAULT " + x.fault(0) + " at " + x.fault(1));
        }
        return x;
    }

    static SorryWalk of(String land, String tales) {
        SorryWalk x = of(land);
        if (tales(x, tales) < 0) {
            throw new IllegalArgumentException("no TALES: " + tales + ", FAULT " + x.fault(0) + " at " + x.fault(1));
        }
        return x;
    }
}
