import com.sun.management.ThreadMXBean;
import java.lang.management.ManagementFactory;

/** All calls of one run live in one room: what is made is made once and used again. */
public final class RoomTest {
    private static final String SEVEN = "party 24;chair 0;chair 4;chair 8;chair 12;chair 16;chair 20;guest 0 1 9"
        + ";guest 4 2 9;guest 8 3 9;guest 12 4 9;guest 16 5 9;guest 20 0 9;guest 2 1 1";
    private static final ThreadMXBean THREAD = (ThreadMXBean) ManagementFactory.getThreadMXBean();

    public static void main(String[] args) {
        use(new MusicChairs());
        long before = THREAD.getCurrentThreadAllocatedBytes();
        MusicChairs x = new MusicChairs();
        use(x);
        long first = THREAD.getCurrentThreadAllocatedBytes() - before;
        // 600,000 objects and 7.3 million elements are far more than a hundred such objects of all acts and images
        Due.holds("an object with all acts and images has " + first + " bytes", first < 120_000);
        before = THREAD.getCurrentThreadAllocatedBytes();
        use(x);
        long second = THREAD.getCurrentThreadAllocatedBytes() - before;
        Due.holds("used again it makes " + second + " bytes", second < 4_000);
        Due.end("RoomTest");
    }

    private static void use(MusicChairs x) {
        feed(x, SEVEN);
        x.party();
        feed(x, "play near*3+1 if not [round>2 and tired<5] or last=3;play guests");
        x.rule();
        x.force(0);
        for (int k = 0; k < 22; k++) {
            x.pace(k % 7, k % 6);
            x.play(k);
            x.swap(0, 1);
            x.bring(k % 6);
            x.round();
            x.image(k % 4);
        }
        for (int k = 0; k < 9; k++) {
            x.back(k % 4);
            x.undo();
            x.note(k, k % 7, 1);
            ask(x, k % 7);
        }
    }

    private static void ask(MusicChairs x, int g) {
        x.ahead(g, 40, 0);
        x.winner(0);
        x.gone(g);
        x.safe(g, 0);
        x.row(g, 4, 0);
        x.within(9);
        x.kind(g);
        x.longest();
        x.meet(g, 0);
        x.tour();
        x.away(g, 20, 0);
        x.begin(g, 20, 0);
        x.steps(g);
        x.quicks(g);
        x.rests(g, 0, 20, 0);
        x.pence(99, g);
        x.ruled(0);
        x.look(9, 0);
        x.tunes(20, 60, g);
    }

    private static void feed(MusicChairs x, String text) {
        x.end(0);
        for (int at = 0; at < text.length(); at += 20) {
            x.feed(Due.word(text, at), Due.word(text, at + 4), Due.word(text, at + 8), Due.word(text, at + 12),
                Due.word(text, at + 16));
        }
        x.end(text.length());
    }
}
