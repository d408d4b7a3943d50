/** Promises 67 to 71 and the terms LIVED, MISSED, draws, MARKS: boundary cases. */
public final class TalesEdgeTest {
    private static final Cases cases = new Cases("TalesEdgeTest");
    private static final String LAND = "house a;house b;door a b;person p in a;person q in b;person r in b;person s in a dead;"
        + "owes p q 5;owes s r 3;owes q p 2;";

    public static void main(String[] args) {
        live();
        steps();
        missed();
        tests();
        loops();
        limit();
        draws();
        lived();
        mean();
        marks();
        undo();
        cases.end();
    }

    private static void livedAs(Check check, SorryWalk x, int missed, int nights, int said, int deaths, int left) {
        int[] want = {missed, nights, said, deaths, left};
        for (int what = 0; what < 5; what++) {
            check.gives(x, "lived(" + what + ")", x.lived(what), want[what]);
        }
    }

    private static SorryWalk atNight(int night, String land, String tales) {
        SorryWalk x = Texts.of(land, tales);
        for (int k = 0; k < night / 99; k++) {
            x.night(99);
        }
        if (night % 99 > 0) {
            x.night(night % 99);
        }
        return x;
    }

    private static void live() {
        cases.edge("67: the seeds 0 and 9,999", check -> {
            SorryWalk x = Texts.of(LAND, "any;");
            check.gives(x, "live(0)", x.live(0), 1);
            check.gives(x, "live(9999)", x.live(9999), 1);
            check.refused(x, "live(10000)", x.live(10000), 1);
            check.refused(x, "live(-1)", x.live(-1), 1);
        });
        cases.edge("67: no TALES", check -> {
            SorryWalk x = Texts.of(LAND);
            check.refused(x, "live(0)", x.live(0), 6);
            check.refused(x, "1 is ahead of 6", x.live(10000), 1);
        });
        cases.edge("67: no TALES, those with a FAULT are none", check -> {
            SorryWalk x = Texts.of(LAND);
            Texts.tales(x, "any");
            check.refused(x, "live(0)", x.live(0), 6);
        });
        cases.edge("67: TALES of no STEPS are TALES", check -> {
            SorryWalk x = Texts.of(LAND, "");
            check.gives(x, "live(0)", x.live(0), 0);
            livedAs(check, x, 0, 0, 0, 0, 0);
        });
        cases.edge("67: in an empty LAND", check -> {
            SorryWalk x = new SorryWalk();
            check.gives(x, "tales", Texts.tales(x, "night 9;any;stop;"), 3);
            check.gives(x, "live(0)", x.live(0), 3);
            livedAs(check, x, 1, 9, 0, 0, 0);
        });
        cases.edge("67: 30 STEPS", check -> {
            StringBuilder b = new StringBuilder();
            for (int k = 0; k < 30; k++) {
                b.append("night 9;");
            }
            SorryWalk x = Texts.of(LAND, b.toString());
            check.gives(x, "live(0)", x.live(0), 30);
            check.gives(x, "told(3)", x.told(3), 270);
        });
        cases.edge("67: 27 loops with 27 ends", check -> {
            StringBuilder b = new StringBuilder();
            for (int k = 0; k < 27; k++) {
                b.append("loop 3;end;");
            }
            SorryWalk x = Texts.of(LAND, b.toString());
            check.gives(x, "live(0)", x.live(0), 27);
            livedAs(check, x, 0, 0, 0, 0, 0);
        });
        cases.edge("67: 15 loops with a STEP and an end each", check -> {
            StringBuilder b = new StringBuilder();
            for (int k = 0; k < 15; k++) {
                b.append("loop 2;night 1;end;");
            }
            SorryWalk x = Texts.of(LAND, b.toString());
            check.gives(x, "live(0)", x.live(0), 45);
            check.gives(x, "told(3)", x.told(3), 30);
        });
        cases.edge("67: all is as it is then, and the TALES stay", check -> {
            SorryWalk x = Texts.of(LAND, "night 9;");
            x.live(0);
            x.live(0);
            check.gives(x, "told(3)", x.told(3), 18);
        });
    }

    private static void steps() {
        cases.edge("TALES: stop is a STEP, and ends them", check -> {
            SorryWalk x = Texts.of(LAND, "stop;die p;");
            check.gives(x, "live(0)", x.live(0), 1);
            check.gives(x, "told(7)", x.told(7), 8);
            livedAs(check, x, 0, 0, 0, 0, 0);
        });
        cases.edge("TALES: stop within three others", check -> {
            SorryWalk x = Texts.of(LAND, "loop 9;loop 9;loop 9;night 1;stop;end;end;end;die p;");
            check.gives(x, "live(0)", x.live(0), 5);
            livedAs(check, x, 0, 1, 0, 0, 0);
        });
        cases.edge("TALES: forge to 99 at most", check -> {
            SorryWalk x = Texts.of(LAND, "forge s to r 95;forge s to r 99;forge s to p 99;");
            check.gives(x, "live(0)", x.live(0), 3);
            check.gives(x, "owed(3, 2)", x.owed(3, 2), 99);
            check.gives(x, "owed(3, 0)", x.owed(3, 0), 99);
            livedAs(check, x, 0, 0, 0, 0, 0);
        });
        cases.edge("TALES: the first FORGIVES the second", check -> {
            SorryWalk x = Texts.of(LAND, "forgive q p;");
            x.live(0);
            check.gives(x, "owed(0, 1)", x.owed(0, 1), 0);
            check.gives(x, "owed(1, 0)", x.owed(1, 0), 2);
        });
        cases.edge("TALES: SALT keeps GHOSTS from the next STEP on", check -> {
            SorryWalk x = Texts.of(LAND, "salt b;night 2;sweep b;night 2;");
            x.live(0);
            livedAs(check, x, 0, 4, 1, 0, 0);
        });
    }

    private static void missedOne(String sentence, String tales, int steps) {
        cases.edge("MISSED: " + sentence, check -> {
            SorryWalk x = Texts.of(LAND, tales);
            SorryWalk y = Texts.of(LAND, tales);
            check.gives(x, "live(0)", x.live(0), steps);
            check.gives(x, "lived(0)", x.lived(0), 1);
            for (int what = 0; what < 10; what++) {
                check.gives(x, "told(" + what + ")", x.told(what), y.told(what));
            }
        });
    }

    private static void missed() {
        missedOne("one who is DEAD DIES", "die s;", 1);
        missedOne("one who is DEAD FORGIVES", "forgive s p;", 1);
        missedOne("one has nothing to FORGIVE", "forgive r p;", 1);
        missedOne("one has nothing to FORGIVE itself", "forgive p p;", 1);
        missedOne("a SWEEP where none is", "sweep a;", 1);
        missedOne("a FORGE of a living one", "forge p to q 1;", 1);
        missedOne("a FORGE to a DEAD one, itself", "forge s to s 1;", 1);
        missedOne("a FORGE of a living one to itself", "forge p to p 1;", 1);
        missedOne("a FORGE of a living one to a DEAD one", "forge p to s 1;", 1);
        cases.edge("MISSED: SALT where some is", check -> {
            SorryWalk x = Texts.of(LAND, "salt a;salt a;");
            check.gives(x, "live(0)", x.live(0), 2);
            check.gives(x, "lived(0)", x.lived(0), 1);
            check.gives(x, "told(6)", x.told(6), 1);
        });
        cases.edge("MISSED: a FORGE to a DEAD one", check -> {
            SorryWalk x = Texts.of("house a;person p in a dead;person q in a dead;", "forge p to q 9;");
            check.gives(x, "live(0)", x.live(0), 1);
            check.gives(x, "lived(0)", x.lived(0), 1);
            check.gives(x, "told(5)", x.told(5), 0);
        });
        cases.edge("MISSED: an any without living ones", check -> {
            SorryWalk x = Texts.of("house a;person p in a dead;", "any;any;");
            check.gives(x, "live(0)", x.live(0), 2);
            livedAs(check, x, 2, 0, 0, 0, 0);
        });
        cases.edge("MISSED: NIGHTS beyond 9,999, as a whole", check -> {
            SorryWalk x = atNight(9995, LAND, "night 5;");
            check.gives(x, "live(0)", x.live(0), 1);
            check.gives(x, "told(3)", x.told(3), 9995);
            livedAs(check, x, 1, 0, 0, 0, 0);
        });
        cases.edge("MISSED: NIGHTS just to 9,999 are not", check -> {
            SorryWalk x = atNight(9995, LAND, "night 4;night 1;");
            check.gives(x, "live(0)", x.live(0), 2);
            check.gives(x, "told(3)", x.told(3), 9999);
            livedAs(check, x, 1, 4, 0, 0, 0);
        });
        cases.edge("MISSED: what is not counts 0", check -> {
            SorryWalk x = Texts.of(LAND, "die p;forgive r s;salt a;sweep a;forge s to r 1;any;night 1;when rest p;end;loop 1;end;stop;");
            x.live(0);
            check.gives(x, "lived(0)", x.lived(0), 0);
        });
    }

    private static void labourTest(String sentence, String test, int labour, boolean holds) {
        cases.edge("when labour: " + sentence, check -> {
            SorryWalk x = Texts.of("house a;person p in a dead;person q in a keeps;owes p q 1;", "when labour a " + test + ";salt a;end;stop;");
            if (labour > 0) {
                x.night(labour);
            }
            check.gives(x, "live(0)", x.live(0), holds ? 3 : 2);
            check.gives(x, "told(6)", x.told(6), holds ? 1 : 0);
        });
    }

    private static void tests() {
        labourTest("0 = 0", "= 0", 0, true);
        labourTest("0 < 0", "< 0", 0, false);
        labourTest("0 > 0", "> 0", 0, false);
        labourTest("0 < 1", "< 1", 0, true);
        labourTest("1 < 1", "< 1", 1, false);
        labourTest("1 = 1", "= 1", 1, true);
        labourTest("1 > 1", "> 1", 1, false);
        labourTest("2 > 1", "> 1", 2, true);
        labourTest("2 < 1", "< 1", 2, false);
        labourTest("0 > 1", "> 1", 0, false);
        labourTest("2 = 1", "= 1", 2, false);
        labourTest("99 < 9,999", "< 9999", 99, true);
        labourTest("99 = 0099", "= 0099", 99, true);
        cases.edge("when labour: 9,999 = 9,999, and not above", check -> {
            StringBuilder b = new StringBuilder("house a;person k in a keeps;");
            for (char c = 'l'; c <= 'r'; c++) {
                b.append("person ").append(c).append(" in a dead;owes ").append(c).append(" k 1;");
            }
            SorryWalk x = atNight(1485, b.toString(), "when labour a = 9999;night 1;end;when labour a > 9999;night 9;end;");
            check.gives(x, "live(0)", x.live(0), 3);
            check.gives(x, "told(3)", x.told(3), 1486);
        });
        cases.edge("when rest: a living one who owes is no GHOST", check -> {
            SorryWalk x = Texts.of(LAND, "when rest p;salt a;end;");
            check.gives(x, "live(0)", x.live(0), 2);
        });
        cases.edge("when rest: a GHOST, then none", check -> {
            SorryWalk x = Texts.of(LAND, "when rest s;salt a;end;night 3;when rest s;salt a;end;night 1;when rest s;salt b;end;");
            check.gives(x, "live(0)", x.live(0), 6);
            check.gives(x, "told(6)", x.told(6), 2);
        });
        cases.edge("when at: IN that HOUSE now, not its HOME", check -> {
            SorryWalk x = Texts.of(LAND, "night 1;when at s in a;die p;end;when at s in b;die q;end;");
            check.gives(x, "live(0)", x.live(0), 4);
            check.gives(x, "told(7)", x.told(7), 10);
        });
        cases.edge("when: one that does not hold leaves out all to its own end", check -> {
            SorryWalk x = Texts.of(LAND, "when rest s;when rest p;die p;end;loop 9;die q;end;end;die r;");
            check.gives(x, "live(0)", x.live(0), 2);
            check.gives(x, "told(7)", x.told(7), 12);
        });
        cases.edge("when: one that holds, with nothing in it", check -> {
            SorryWalk x = Texts.of(LAND, "when rest p;end;when rest s;end;");
            check.gives(x, "live(0)", x.live(0), 2);
        });
    }

    private static void loops() {
        cases.edge("loop: 1 time", check -> {
            SorryWalk x = Texts.of(LAND, "loop 1;night 1;end;");
            check.gives(x, "live(0)", x.live(0), 2);
        });
        cases.edge("loop: 99 times", check -> {
            SorryWalk x = Texts.of(LAND, "loop 99;night 1;end;");
            check.gives(x, "live(0)", x.live(0), 100);
            check.gives(x, "told(3)", x.told(3), 99);
        });
        cases.edge("loop: 99 times nothing", check -> {
            SorryWalk x = Texts.of(LAND, "loop 99;end;");
            check.gives(x, "live(0)", x.live(0), 1);
        });
        cases.edge("loop: an inner one is whole each time", check -> {
            SorryWalk x = Texts.of(LAND, "loop 2;loop 3;night 1;end;end;");
            check.gives(x, "1 + 2 (1 + 3)", x.live(0), 9);
            check.gives(x, "told(3)", x.told(3), 6);
        });
        cases.edge("loop: three within each other, of nothing", check -> {
            SorryWalk x = Texts.of(LAND, "loop 16;loop 16;loop 1;end;end;end;");
            check.gives(x, "1 + 16 (1 + 16) are 273", x.live(0), 273);
            check.gives(x, "lived(4)", x.lived(4), 0);
        });
        cases.edge("loop: a when in it is asked each time", check -> {
            SorryWalk x = Texts.of(LAND, "loop 3;night 1;when at s in b;salt a;end;end;");
            check.gives(x, "live(0)", x.live(0), 10);
            livedAs(check, x, 2, 3, 2, 0, 0);
        });
        cases.edge("loop: left by a when that does not hold at its end", check -> {
            SorryWalk x = Texts.of(LAND, "loop 2;when rest s;night 9;end;end;night 1;");
            check.gives(x, "1 + 2 + 1", x.live(0), 4);
        });
        cases.edge("loop: lived again it is whole again", check -> {
            SorryWalk x = Texts.of(LAND, "loop 3;night 1;when labour a = 0;stop;end;end;");
            check.gives(x, "live(0)", x.live(0), 4);
            x = Texts.of(LAND, "loop 3;night 1;end;");
            check.gives(x, "live(0)", x.live(0), 4);
            check.gives(x, "live(0)", x.live(0), 4);
        });
    }

    private static final String ALMOST = "loop 99;salt a;sweep a;salt b;end;"; // 298 STEPS, of which 98 are MISSED

    private static void limit() {
        cases.edge("300 STEPS: just 299, none is left", check -> {
            SorryWalk x = Texts.of(LAND, ALMOST + "night 1;");
            check.gives(x, "live(0)", x.live(0), 299);
            livedAs(check, x, 98, 1, 0, 0, 0);
        });
        cases.edge("300 STEPS: just 300, none is left", check -> {
            SorryWalk x = Texts.of(LAND, ALMOST + "night 1;night 2;");
            check.gives(x, "live(0)", x.live(0), 300);
            livedAs(check, x, 98, 3, 0, 0, 0);
        });
        cases.edge("300 STEPS: one is left to be done", check -> {
            SorryWalk x = Texts.of(LAND, ALMOST + "night 1;night 2;night 4;");
            check.gives(x, "live(0)", x.live(0), 300);
            livedAs(check, x, 98, 3, 0, 0, 1);
        });
        cases.edge("300 STEPS: stop is the 300th", check -> {
            SorryWalk x = Texts.of(LAND, ALMOST + "night 1;stop;night 4;");
            check.gives(x, "live(0)", x.live(0), 300);
            check.gives(x, "lived(4)", x.lived(4), 0);
        });
        cases.edge("300 STEPS: stop is left to be done", check -> {
            SorryWalk x = Texts.of(LAND, ALMOST + "night 1;night 1;stop;");
            check.gives(x, "live(0)", x.live(0), 300);
            check.gives(x, "lived(4)", x.lived(4), 1);
        });
        cases.edge("300 STEPS: a loop is the 300th, what is in it is left", check -> {
            SorryWalk x = Texts.of(LAND, ALMOST + "night 1;loop 1;night 9;end;");
            check.gives(x, "live(0)", x.live(0), 300);
            livedAs(check, x, 98, 1, 0, 0, 1);
        });
        cases.edge("300 STEPS: an empty loop is the 300th, its end is no STEP", check -> {
            SorryWalk x = Texts.of(LAND, ALMOST + "night 1;loop 99;end;");
            check.gives(x, "live(0)", x.live(0), 300);
            check.gives(x, "lived(4)", x.lived(4), 0);
        });
        cases.edge("300 STEPS: a when is the 300th that does not hold", check -> {
            SorryWalk x = Texts.of(LAND, ALMOST + "night 1;when rest s;night 9;end;");
            check.gives(x, "live(0)", x.live(0), 300);
            check.gives(x, "lived(4)", x.lived(4), 0);
        });
        cases.edge("300 STEPS: a when is the 300th that holds", check -> {
            SorryWalk x = Texts.of(LAND, ALMOST + "night 1;when rest p;night 9;end;");
            check.gives(x, "live(0)", x.live(0), 300);
            livedAs(check, x, 98, 1, 0, 0, 1);
        });
        cases.edge("300 STEPS: a loop's next time is left", check -> {
            SorryWalk x = Texts.of(LAND, ALMOST + "loop 2;night 1;end;");
            check.gives(x, "live(0)", x.live(0), 300);
            livedAs(check, x, 98, 1, 0, 0, 1);
        });
        cases.edge("300 STEPS: a loop's last time is not", check -> {
            SorryWalk x = Texts.of(LAND, ALMOST + "loop 1;night 1;end;");
            check.gives(x, "live(0)", x.live(0), 300);
            check.gives(x, "lived(4)", x.lived(4), 0);
        });
        cases.edge("300 STEPS: of 99 times 99 times 99", check -> {
            SorryWalk x = Texts.of(LAND, "loop 99;loop 99;loop 99;end;end;end;");
            check.gives(x, "live(0)", x.live(0), 300);
            check.gives(x, "lived(4)", x.lived(4), 1);
        });
    }

    private static void draw(int seed, int living, int who) {
        cases.edge("draws: by seed " + seed + " of " + living, check -> {
            StringBuilder b = new StringBuilder("house a;person z in a dead;");
            for (int k = 0; k < living; k++) {
                b.append("person ").append((char) ('a' + 1 + k)).append(" in a;");
            }
            SorryWalk x = Texts.of(b.toString(), "any;");
            check.gives(x, "live", x.live(seed), 1);
            check.gives(x, "told(7)", x.told(7), 1 | 2 << who);
        });
    }

    private static void draws() {
        // seed 0: s is 11,171; by 8 it is 1,396
        draw(0, 1, 0);
        draw(0, 2, 0);
        draw(0, 3, 1);
        draw(0, 7, 3);
        // seed 9,999: 29,687,031 + 11,171 are 29,698,202, by 65,536 the rest is 10,394; by 8 it is 1,299
        draw(9999, 1, 0);
        draw(9999, 2, 1);
        draw(9999, 3, 0);
        draw(9999, 7, 4);
        // seed 19: 56,411 + 11,171 are 67,582, by 65,536 the rest is 2,046; by 8 it is 255
        draw(19, 2, 1);
        draw(19, 4, 3);
        draw(19, 7, 3);
        // seed 4: 11,876 + 11,171 are 23,047; by 8 it is 2,880 and 7 are left
        draw(4, 7, 3);
        // seed 5: 14,845 + 11,171 are 26,016; by 8 it is 3,252 and nothing is left
        draw(5, 7, 4);
        // seed 7,328: 21,756,832 + 11,171 are 21,768,003; the rest by 65,536 is 10,051; by 8 it is 1,256
        draw(7328, 7, 3);
        cases.edge("draws: s goes on from draw to draw", check -> {
            // seed 0: 11,171, then 33,166,699 + 11,171 = 33,177,870, the rest is 16,654; by 8 they are 1,396 and 2,081
            SorryWalk x = Texts.of("house a;person p in a;person q in a;person r in a;", "any;any;");
            x.live(0);
            check.gives(x, "of three the second, of p, r the second", x.told(7), 2 + 4);
        });
        cases.edge("draws: from the seed again when LIVED again", check -> {
            SorryWalk x = Texts.of("house a;person p in a;person q in a;person r in a;person s in a;", "any;");
            x.live(0);
            check.gives(x, "1,396 of 4: the first", x.told(7), 1);
            x.live(0);
            check.gives(x, "1,396 of q, r, s: the second", x.told(7), 1 + 4);
        });
        cases.edge("draws: none for an any without living ones", check -> {
            SorryWalk x = Texts.of("house a;person p in a;", "any;any;any;");
            check.gives(x, "live(0)", x.live(0), 3);
            livedAs(check, x, 2, 0, 0, 1, 0);
        });
        cases.edge("draws: none for other STEPS", check -> {
            SorryWalk x = Texts.of("house a;person p in a;person q in a;person r in a;", "night 9;salt a;salt a;loop 3;end;any;");
            x.live(0);
            check.gives(x, "told(7)", x.told(7), 2);
        });
    }

    private static void lived() {
        cases.edge("68: there was none", check -> {
            SorryWalk x = Texts.of(LAND, "any;");
            for (int what = 0; what < 5; what++) {
                check.refused(x, "lived(" + what + ")", x.lived(what), 6);
            }
            check.refused(x, "1 is ahead of 6", x.lived(5), 1);
            check.refused(x, "1 is ahead of 6", x.lived(-1), 1);
        });
        cases.edge("68: none with STATUS 0", check -> {
            SorryWalk x = Texts.of(LAND);
            x.live(0);
            x.live(-1);
            check.refused(x, "lived(0)", x.lived(0), 6);
        });
        cases.edge("68: a mean is none", check -> {
            SorryWalk x = Texts.of(LAND, "any;");
            x.mean(0, 20);
            check.refused(x, "lived(0)", x.lived(0), 6);
        });
        cases.edge("68: the latest with STATUS 0, not those refused behind it", check -> {
            SorryWalk x = Texts.of(LAND, "night 3;die p;die p;");
            x.live(0);
            x.live(10000);
            x.live(-1);
            x.mean(3, 5);
            livedAs(check, x, 1, 3, 2, 1, 0);
        });
        cases.edge("68: MISSED and what was left are of the latest alone", check -> {
            SorryWalk x = Texts.of(LAND, ALMOST + "night 1;night 1;night 1;");
            x.live(0);
            check.gives(x, "lived(0)", x.lived(0), 98);
            check.gives(x, "lived(4)", x.lived(4), 1);
            Texts.tales(x, "night 1;");
            x.live(0);
            check.gives(x, "lived(0)", x.lived(0), 0);
            check.gives(x, "lived(4)", x.lived(4), 0);
        });
        cases.edge("68: of the latest alone, not of all", check -> {
            SorryWalk x = Texts.of(LAND, "night 3;die p;");
            x.live(0);
            x.live(0);
            check.gives(x, "lived(0)", x.lived(0), 1);
            check.gives(x, "lived(1)", x.lived(1), 3);
            check.gives(x, "lived(3)", x.lived(3), 0);
        });
        cases.edge("68: not what was ahead of it or comes behind", check -> {
            SorryWalk x = Texts.of(LAND, "night 2;");
            x.night(2);
            x.die(0);
            x.live(0);
            x.night(5);
            x.die(1);
            check.gives(x, "lived(1)", x.lived(1), 2);
            check.gives(x, "lived(3)", x.lived(3), 0);
        });
        cases.edge("68: deaths by die and by any", check -> {
            SorryWalk x = Texts.of(LAND, "die p;any;any;any;");
            x.live(0);
            livedAs(check, x, 1, 0, 0, 3, 0);
        });
        cases.edge("68: SORRIES not heard or kept count, too", check -> {
            SorryWalk x = Texts.of("house a;person p in a dead;person q in a deaf;person r in a dead;person s in a keeps;owes p q 9;owes r s 9;", "night 2;");
            x.live(0);
            livedAs(check, x, 0, 2, 4, 0, 0);
        });
        cases.edge("68: a new LAND, a MARK and what is taken back leave it", check -> {
            SorryWalk x = Texts.of(LAND, "night 3;");
            x.mark();
            x.live(0);
            x.undo();
            check.gives(x, "lived(1)", x.lived(1), 3);
            x.land(0);
            check.gives(x, "lived(1)", x.lived(1), 3);
        });
    }

    private static void mean() {
        cases.edge("69: 1 seed: SORROW behind it", check -> {
            SorryWalk x = Texts.of(LAND, "die q;");
            check.yes(x, "mean(0, 1)", x.mean(0, 1));
            check.due("top()", x.top(), 5);
            check.due("bottom()", x.bottom(), 1);
        });
        cases.edge("69: the last seed is 9,999", check -> {
            SorryWalk x = Texts.of(LAND, "any;");
            check.yes(x, "mean(9999, 1)", x.mean(9999, 1));
            check.yes(x, "mean(9980, 20)", x.mean(9980, 20));
            check.denied(x, "mean(9981, 20)", x.mean(9981, 20), 1);
            check.denied(x, "mean(9999, 2)", x.mean(9999, 2), 1);
            check.denied(x, "mean(10000, 1)", x.mean(10000, 1), 1);
        });
        cases.edge("69: no TALES, but 1 is ahead", check -> {
            SorryWalk x = Texts.of(LAND);
            check.denied(x, "mean(0, 1)", x.mean(0, 1), 6);
            check.denied(x, "mean(9999, 2)", x.mean(9999, 2), 1);
            check.denied(x, "mean(0, 0)", x.mean(0, 0), 1);
            check.denied(x, "mean(0, 21)", x.mean(0, 21), 1);
        });
        cases.edge("69: refused, the FRACTION stays", check -> {
            SorryWalk x = Texts.of(LAND, "");
            check.yes(x, "mean(0, 1)", x.mean(0, 1));
            check.denied(x, "mean(0, 21)", x.mean(0, 21), 1);
            check.due("top()", x.top(), 10);
        });
        cases.edge("69: of no SORROW: 0 by 1", check -> {
            SorryWalk x = Texts.of("house a;person p in a;", "any;");
            check.yes(x, "mean(0, 20)", x.mean(0, 20));
            check.due("top()", x.top(), 0);
            check.due("bottom()", x.bottom(), 1);
        });
        cases.edge("69: of no STEPS: SORROW now", check -> {
            SorryWalk x = Texts.of(LAND, "");
            check.yes(x, "mean(0, 20)", x.mean(0, 20));
            check.due("top()", x.top(), 10);
            check.due("bottom()", x.bottom(), 1);
        });
        cases.edge("69: each seed from now on, without a common divisor", check -> {
            // of two living ones seed 0 draws the first (11,171 by 8 is 1,396), seed 1 the second (14,140 by 8 is 1,767)
            SorryWalk x = Texts.of("house a;person p in a;person q in a;person r in a dead;owes r p 4;owes r q 1;", "any;");
            check.yes(x, "mean(0, 2)", x.mean(0, 2));
            check.due("1 and 4", x.top(), 5);
            check.due("bottom()", x.bottom(), 2);
        });
        cases.edge("69: from one seed on, by 20 of them", check -> {
            int sum = 0;
            for (int seed = 100; seed < 120; seed++) {
                SorryWalk y = Texts.of(LAND, "any;any;");
                y.live(seed);
                sum += y.told(5);
            }
            SorryWalk x = Texts.of(LAND, "any;any;");
            check.yes(x, "mean(100, 20)", x.mean(100, 20));
            check.due("top() by bottom()", x.top() * 20, sum * x.bottom());
        });
        cases.edge("69: all stays as it is", check -> {
            SorryWalk x = Texts.of(LAND, "any;night 9;salt a;");
            SorryWalk y = Texts.of(LAND, "any;night 9;salt a;");
            x.mean(0, 20);
            y.mean(0, 20);
            x.mean(0, 20);
            check.due("all is the same", Calls.allOf(x).equals(Calls.allOf(y)), true);
            x = Texts.of(LAND, "any;night 9;salt a;");
            x.mean(0, 20);
            check.gives(x, "told(3)", x.told(3), 0);
            check.gives(x, "told(6)", x.told(6), 0);
            check.gives(x, "told(7)", x.told(7), 8);
        });
        cases.edge("69: at NIGHT 9,999 its NIGHTS are MISSED", check -> {
            SorryWalk x = atNight(9999, "house a;person p in a dead;person q in a;", "night 1;");
            x.forge(0, 1, 9);
            check.yes(x, "mean(0, 20)", x.mean(0, 20));
            check.due("top()", x.top(), 9);
        });
    }

    private static void marks() {
        cases.edge("70: 3 MARKS, not a fourth", check -> {
            SorryWalk x = new SorryWalk();
            check.gives(x, "mark()", x.mark(), 1);
            check.gives(x, "mark()", x.mark(), 2);
            check.gives(x, "mark()", x.mark(), 3);
            check.refused(x, "mark()", x.mark(), 4);
            check.refused(x, "mark()", x.mark(), 4);
            check.gives(x, "undo()", x.undo(), 2);
        });
        cases.edge("70: one that is gone makes room", check -> {
            SorryWalk x = new SorryWalk();
            x.mark();
            x.mark();
            x.mark();
            x.undo();
            check.gives(x, "mark()", x.mark(), 3);
            check.refused(x, "mark()", x.mark(), 4);
        });
        cases.edge("70: a refused MARK is not the latest", check -> {
            SorryWalk x = new SorryWalk();
            x.mark();
            x.mark();
            x.mark();
            x.night(5);
            x.mark();
            x.night(5);
            check.gives(x, "undo()", x.undo(), 2);
            check.gives(x, "told(3)", x.told(3), 0);
        });
        cases.edge("70: a MARK of an empty LAND", check -> {
            SorryWalk x = new SorryWalk();
            x.mark();
            Texts.land(x, LAND);
            check.gives(x, "undo()", x.undo(), 0);
            check.gives(x, "told(0)", x.told(0), 0);
            check.gives(x, "told(1)", x.told(1), 0);
        });
    }

    private static void undo() {
        cases.edge("71: none left", check -> {
            SorryWalk x = Texts.of(LAND);
            check.refused(x, "undo()", x.undo(), 6);
            x.mark();
            check.gives(x, "undo()", x.undo(), 0);
            check.refused(x, "undo()", x.undo(), 6);
            check.gives(x, "told(1)", x.told(1), 4);
        });
        cases.edge("71: to the latest MARK, one by one", check -> {
            SorryWalk x = Texts.of(LAND);
            x.mark();
            x.night(1);
            x.mark();
            x.night(1);
            x.mark();
            x.night(1);
            check.gives(x, "undo()", x.undo(), 2);
            check.gives(x, "told(3)", x.told(3), 2);
            check.gives(x, "undo()", x.undo(), 1);
            check.gives(x, "told(3)", x.told(3), 1);
            check.gives(x, "undo()", x.undo(), 0);
            check.gives(x, "told(3)", x.told(3), 0);
        });
        cases.edge("71: what is done behind a MARK does not reach it", check -> {
            SorryWalk x = Texts.of(LAND, "night 1;any;");
            x.mark();
            x.mark();
            x.live(4);
            x.undo();
            SorryWalk y = Texts.of(LAND, "night 1;any;");
            check.gives(x, "told(3)", x.told(3), 0);
            x.keep(0, true);
            x.undo();
            for (int what = 0; what < 10; what++) {
                check.gives(x, "told(" + what + ")", x.told(what), y.told(what));
            }
        });
        cases.edge("71: TALES come back, and go", check -> {
            SorryWalk x = Texts.of(LAND, "night 5;");
            x.mark();
            x.land(0);
            x.mark();
            Texts.tales(x, "any;");
            x.undo();
            check.refused(x, "no TALES then", x.live(0), 6);
            x.undo();
            check.gives(x, "live(0)", x.live(0), 1);
            check.gives(x, "told(3)", x.told(3), 5);
        });
        cases.edge("71: MARKS outlast a new LAND", check -> {
            SorryWalk x = Texts.of(LAND);
            x.mark();
            Texts.land(x, "house z;");
            check.gives(x, "mark()", x.mark(), 2);
            check.gives(x, "undo()", x.undo(), 1);
            check.gives(x, "undo()", x.undo(), 0);
            check.gives(x, "told(1)", x.told(1), 4);
        });
        cases.edge("71: NIGHT 9,999 is taken back", check -> {
            SorryWalk x = Texts.of(LAND);
            x.mark();
            for (int k = 0; k < 101; k++) {
                x.night(99);
            }
            check.refused(x, "night(1)", x.night(1), 4);
            x.undo();
            check.gives(x, "night(1)", x.night(1), 1);
        });
        cases.edge("71: NAMES come back", check -> {
            SorryWalk x = Texts.of(LAND);
            x.mark();
            Texts.land(x, "house p;person a in p;");
            x.undo();
            check.gives(x, "tales", Texts.tales(x, "die p;salt a;"), 2);
        });
        cases.edge("71: WAYS come back", check -> {
            SorryWalk x = Texts.of(LAND);
            x.mark();
            x.wall(0, 1, false);
            x.salt(1, true);
            x.undo();
            check.gives(x, "way(0, 1)", x.way(0, 1), 1);
            check.gives(x, "night(1)", x.night(1), 1);
            check.gives(x, "s went", x.person(3, 0), 1);
        });
        cases.edge("71: TRAYS, the tape and the FRACTION stay", check -> {
            SorryWalk x = Texts.of(LAND);
            x.mark();
            x.tray(0, 0, 1);
            x.write(0, 0, 5);
            x.feed(0, 0, 0, 0, 0);
            x.weight();
            x.undo();
            check.gives(x, "read(0, 0)", x.read(0, 0), 5);
            check.due("top()", x.top(), 3);
            check.due("bottom()", x.bottom(), 10);
            check.due("feed", x.feed(0, 0, 0, 0, 0), 40);
        });
    }
}
