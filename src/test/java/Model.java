import java.util.HashMap;
import java.util.Map;
import java.util.TreeMap;
import java.util.TreeSet;

/** The document's terms told a second time, in sets and maps, to compare random runs with. */
final class Model {
    private static final class Team {
        int generation;
        boolean mixing;
        int limit;
        final TreeMap<Integer, Integer> heard = new TreeMap<>();
        final TreeSet<Integer> joined = new TreeSet<>();
        final Map<Integer, Long> offsets = new HashMap<>();

        boolean empty() {
            return heard.isEmpty();
        }

        boolean stable() {
            return !empty() && !mixing;
        }
    }

    private final int logs;
    private final Team[] teams = new Team[8];
    private int time;
    private int left = 1000;
    private int notes;

    Model(int asked) {
        logs = asked < 1 ? 1 : asked > 8 ? 8 : asked;
        for (int i = 0; i < 8; i++) {
            teams[i] = new Team();
        }
    }

    private static void need(boolean legal) {
        if (!legal) {
            throw new IllegalArgumentException();
        }
    }

    private Team team(int group) {
        need(0 <= group && group <= 7);
        return teams[group];
    }

    private Team team(int group, int member) {
        need(0 <= member && member <= 7);
        return team(group);
    }

    private void startMixing(Team team) {
        team.mixing = true;
        team.joined.clear();
        team.limit = time + 20;
    }

    private void mayBeDone(Team team) {
        if (!team.mixing) {
            return;
        }
        if (team.empty()) {
            team.mixing = false;
            return;
        }
        if (!team.joined.containsAll(team.heard.keySet()) && time < team.limit) {
            return;
        }
        if (team.joined.isEmpty()) {
            team.heard.clear();
            team.mixing = false;
        } else if (left > 0) {
            left--;
            notes++;
            team.generation++;
            team.mixing = false;
            team.heard.keySet().retainAll(team.joined);
            team.heard.replaceAll((member, when) -> time);
        }
    }

    int join(int group, int member) {
        Team team = team(group, member);
        if (team.empty() || team.stable()) {
            startMixing(team);
        }
        team.heard.put(member, time);
        team.joined.add(member);
        mayBeDone(team);
        return team.stable() ? team.generation : -1;
    }

    int leave(int group, int member) {
        Team team = team(group, member);
        if (!team.heard.containsKey(member)) {
            return -8;
        }
        boolean wasStable = team.stable();
        team.heard.remove(member);
        team.joined.remove(member);
        if (wasStable && !team.empty()) {
            startMixing(team);
        }
        mayBeDone(team);
        return 1;
    }

    int beat(int group, int member, int generation) {
        Team team = team(group, member);
        if (!team.heard.containsKey(member)) {
            return -8;
        }
        if (team.generation != generation) {
            return -9;
        }
        team.heard.put(member, time);
        return team.mixing && !team.joined.contains(member) ? 1 : 0;
    }

    int commit(int group, int member, int generation, int log, long offset) {
        Team team = team(group, member);
        need(0 <= log && log < logs && offset >= 0);
        if (!team.heard.containsKey(member)) {
            return -8;
        }
        if (team.generation != generation) {
            return -9;
        }
        if (team.mixing) {
            return -10;
        }
        if ((share(group, member) >> log & 1) == 0) {
            return -11;
        }
        if (left == 0) {
            return -2;
        }
        left--;
        notes++;
        team.offsets.put(log, offset);
        team.heard.put(member, time);
        return 0;
    }

    long committed(int group, int log) {
        need(0 <= log && log < logs);
        return team(group).offsets.getOrDefault(log, -1L);
    }

    int group(int group, int what) {
        Team team = team(group);
        need(0 <= what && what <= 4);
        if (what == 0) {
            return team.generation;
        }
        if (what == 1) {
            return team.empty() ? 0 : team.mixing ? 1 : 2;
        }
        if (what == 4) {
            return team.mixing && time < team.limit ? team.limit - time : 0;
        }
        int together = 0;
        for (int member : team.heard.keySet()) {
            if (what == 2 || team.stable() || team.joined.contains(member)) {
                together += 1 << member;
            }
        }
        return together;
    }

    int share(int group, int member) {
        Team team = team(group, member);
        int together = 0;
        if (team.stable()) {
            Integer[] row = team.heard.keySet().toArray(new Integer[0]);
            for (int log = 0; log < logs; log++) {
                if (row[log % row.length] == member) {
                    together += 1 << log;
                }
            }
        }
        return together;
    }

    int room(int n) {
        need(0 <= n && n <= 100000);
        int before = left;
        left = n;
        return before;
    }

    int restart() {
        int before = 0;
        for (Team team : teams) {
            before += team.heard.size();
            team.heard.clear();
            team.joined.clear();
            team.mixing = false;
        }
        return before;
    }

    int ticks(int n) {
        need(1 <= n && n <= 200 && time + n <= 1000000);
        for (int i = 0; i < n; i++) {
            time++;
            for (Team team : teams) {
                if (team.stable() && team.heard.values().removeIf(when -> when <= time - 30) && !team.empty()) {
                    startMixing(team);
                }
                mayBeDone(team);
            }
        }
        return time;
    }

    int notes() {
        return notes;
    }
}
