/** What the document begins with, clause by clause: one night, told, lived through, foretold and undone. */
final class NightSentences extends Probe {

    @Says(promise = 7, sentence = "Level, for the night: a caravan on a field stands on three feet, a left wheel, a right wheel, a nose, each so high, on ground so soft, deeds of kinds by what they lift, told in a text;")
    static void aCaravanIsTold() {
        NightLevel x = nowhere();
        due("deeds", told(x, FIVE), 5);
        same("so high", heights(x), "10 16 9");
        same("so soft", softs(x), "1 0 2");
        for (int deed = 0; deed < 5; deed++) due("KIND of " + deed, x.kind(deed), deed + 1);
    }

    @Says(promise = 10, sentence = "hours of rain in which feet sink, deeds done, boards laid, blocks changed;")
    static void aNightIsLivedThrough() {
        NightLevel x = at(FIVE);
        // It rains at HOUR 0 alone: 9, 16, 7.
        due("hours", x.hours(3), 7 + 5);
        due("a deed", x.perform(0), 1 + 8);
        due("a board", x.board(2), 1);
        due("a block", x.amount(3, 8), 5);
        // It rains at HOUR 3: 14, 16, 6; the nose, by one less.
        due("an hour", x.hours(1), 2 + 9);
        due("the nose is wound", x.perform(3), 2 + 1);
        due("a foot is lifted", x.jack(0, 2), 16);
        same("in the end", night(x), "16 16 14, 1 0 1, done 9, hour 4 6 9 4 8 6");
    }

    @Says(promise = 17, sentence = "how it leans aside and along, whether an egg lies, how long it stays level;")
    static void howItLeans() {
        NightLevel x = at(FIVE);
        due("aside", x.lean(0), 1000 - 6);
        due("along", x.lean(1), 1000 - 4);
        due("no egg lies", x.lean(4), 0);
        due("nor stays it so", x.lasts(), 0);
        x.jack(0, 6);
        x.jack(2, 7);
        due("an egg lies", x.lean(4), 1);
        // 15, 16, 14 behind the first rain; 14, 16, 12 behind the second, at HOUR 3.
        due("how long", x.lasts(), 4);
    }

    @Says(promise = 24, sentence = "which deed helps most, the fewest deeds in an order by which it is level at an hour, exactly; the fewest boards, how much to lift which foot; how bad it gets;")
    static void whatHelps() {
        NightLevel x = at(FIVE);
        due("which helps most", x.best(0), 0);
        due("how much it helps", x.best(1), 0 + 7);
        // DEED 0 puts the wheels at 16, DEED 3 the nose at 14.
        due("the fewest", x.plan(0, -1), 2);
        due("the first", x.plan(0, 0), 0);
        due("the second", x.plan(0, 1), 3);
        NightLevel rain = at("n0,9,2;w10,1;w10,0;w10,0;d0,2;d0,3;d0,1;");
        due("at another hour, another", rain.plan(1, 0), 2);
        due("at another hour, another", rain.plan(3, 0), 0);
        due("the fewest boards", at("n0,1,1;w30,3;w30,1;w30,2;d0,1;").boards(3, -1), 3);
        // 15, 16: MIDDLE 15, from which 13 is off by 2.
        due("how much to lift", x.lift(-1), 9);
        due("the left wheel", x.lift(0), 5);
        due("the right one", x.lift(1), 0);
        due("the nose", x.lift(2), 4);
        // Ten rains, the tenth at HOUR 27, put it at 0, 16, 0.
        due("how bad", x.worst(60, 0), 16 + 8);
        due("behind how many", x.worst(60, 1), 28);
    }

    @Says(promise = 28, sentence = "what was done, of which kind, by how much, on which foot, by how it leaned, all that fits;")
    static void whatWasDone() {
        NightLevel x = withRow(FIRM, 1, 1);
        due("of which kind", x.who(0, 0, 0, 0, 2), 1 << 1 | 1 << 2);
        due("by how much", x.amounts(0, 0, 0, 0, 2), 1 << 1);
        due("on which foot", x.feet(0, 0, 0, 0, 2), 1);
    }

    @Says(promise = 34, sentence = "how likely it is level, if deeds are told wrong; nights by draws; all undone, images.")
    static void whatMayCome() {
        NightLevel x = at(FIRM);
        due("how likely", x.wrong(4, 0), 2);
        due("of how many", x.wrong(4, 1), 5);
        due("a night by draws", x.drawn(9, 9, 0), 1);
        due("level in none of it", x.drawn(9, 9, 1), 0);
        String before = night(x);
        x.image(0);
        x.hours(1);
        x.perform(0);
        x.jack(1, 1);
        for (int left = 2; left >= 0; left--) due("undone", x.undo(), left);
        same("all undone", night(x), before);
        x.perform(0);
        x.restore(0);
        same("by its image", night(x), before);
    }
}
